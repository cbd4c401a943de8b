set_option maxRecDepth 20000 in
theorem tq_0 : Cond.classLink RL 7 RX5 ∈ lw_tbl := List.mem_append_right _ (List.mem_append_left _ (List.mem_of_getElem? (i := 9) rfl))
set_option maxRecDepth 20000 in
theorem tq_1 : Cond.instantiable RX5 7 ∈ lw_tbl := List.mem_append_right _ (List.mem_append_left _ (List.mem_of_getElem? (i := 10) rfl))
set_option maxRecDepth 20000 in
theorem tq_2 : Cond.initialized RX5 ∈ lw_tbl := List.mem_append_right _ (List.mem_append_left _ (List.mem_of_getElem? (i := 1) rfl))
set_option maxRecDepth 20000 in
theorem tq_3 : Cond.classLink RL 10 RX6 ∈ lw_tbl := List.mem_append_right _ (List.mem_append_right _ (List.mem_append_left _ (List.mem_of_getElem? (i := 232) rfl)))
set_option maxRecDepth 20000 in
theorem tq_4 : Cond.instantiable RX6 19 ∈ lw_tbl := List.mem_append_right _ (List.mem_append_right _ (List.mem_append_left _ (List.mem_of_getElem? (i := 233) rfl)))
set_option maxRecDepth 20000 in
theorem tq_5 : Cond.initialized RX6 ∈ lw_tbl := List.mem_append_right _ (List.mem_append_left _ (List.mem_of_getElem? (i := 7) rfl))
set_option maxRecDepth 20000 in
theorem tq_6 : Cond.methodLink RL 9 yX5_init ∈ lw_tbl := List.mem_append_right _ (List.mem_append_left _ (List.mem_of_getElem? (i := 11) rfl))
set_option maxRecDepth 20000 in
theorem tq_7 : Cond.instanceMethod yX5_init ∈ lw_tbl := List.mem_append_right _ (List.mem_append_left _ (List.mem_of_getElem? (i := 12) rfl))
set_option maxRecDepth 20000 in
theorem tq_8 : Cond.code yX5_init cX5_init 2 none ∈ lw_tbl := List.mem_append_right _ (List.mem_append_left _ (List.mem_of_getElem? (i := 13) rfl))
set_option maxRecDepth 20000 in
theorem tq_9 : Cond.methodLink RX5 1 objectInit ∈ lw_tbl := List.mem_append_right _ (List.mem_append_left _ (List.mem_of_getElem? (i := 14) rfl))
set_option maxRecDepth 20000 in
theorem tq_10 : Cond.instanceMethod objectInit ∈ lw_tbl := List.mem_append_right _ (List.mem_append_left _ (List.mem_of_getElem? (i := 15) rfl))
set_option maxRecDepth 20000 in
theorem tq_11 : Cond.code objectInit ⟨#[0xb1]⟩ 1 none ∈ lw_tbl := List.mem_append_right _ (List.mem_append_left _ (List.mem_of_getElem? (i := 16) rfl))
set_option maxRecDepth 20000 in
theorem tq_12 : Cond.classLink RX5 7 RX3 ∈ lw_tbl := List.mem_append_right _ (List.mem_append_left _ (List.mem_of_getElem? (i := 17) rfl))
set_option maxRecDepth 20000 in
theorem tq_13 : Cond.instantiable RX3 5 ∈ lw_tbl := List.mem_append_right _ (List.mem_append_left _ (List.mem_of_getElem? (i := 18) rfl))
set_option maxRecDepth 20000 in
theorem tq_14 : Cond.initialized RX3 ∈ lw_tbl := List.mem_append_right _ (List.mem_append_left _ (List.mem_of_getElem? (i := 2) rfl))
set_option maxRecDepth 20000 in
theorem tq_15 : Cond.fieldLink RX5 10 "SeamPictures" "picture" "LSeamPictures$Picture;" ∈ lw_tbl := List.mem_append_right _ (List.mem_append_left _ (List.mem_of_getElem? (i := 146) rfl))
set_option maxRecDepth 20000 in
theorem tq_16 : Cond.classLink RX5 16 RX4 ∈ lw_tbl := List.mem_append_right _ (List.mem_append_left _ (List.mem_of_getElem? (i := 45) rfl))
set_option maxRecDepth 20000 in
theorem tq_17 : Cond.instantiable RX4 5 ∈ lw_tbl := List.mem_append_right _ (List.mem_append_left _ (List.mem_of_getElem? (i := 46) rfl))
set_option maxRecDepth 20000 in
theorem tq_18 : Cond.initialized RX4 ∈ lw_tbl := List.mem_append_right _ (List.mem_append_left _ (List.mem_of_getElem? (i := 3) rfl))
set_option maxRecDepth 20000 in
theorem tq_19 : Cond.fieldLink RX5 19 "SeamPictures" "found" "LSeamPictures$Seam;" ∈ lw_tbl := List.mem_append_right _ (List.mem_append_left _ (List.mem_of_getElem? (i := 147) rfl))
set_option maxRecDepth 20000 in
theorem tq_20 : Cond.classLink RX5 23 RX2 ∈ lw_tbl := List.mem_append_right _ (List.mem_append_left _ (List.mem_of_getElem? (i := 73) rfl))
set_option maxRecDepth 20000 in
theorem tq_21 : Cond.instantiable RX2 2 ∈ lw_tbl := List.mem_append_right _ (List.mem_append_left _ (List.mem_of_getElem? (i := 74) rfl))
set_option maxRecDepth 20000 in
theorem tq_22 : Cond.initialized RX2 ∈ lw_tbl := List.mem_append_right _ (List.mem_append_left _ (List.mem_of_getElem? (i := 4) rfl))
set_option maxRecDepth 20000 in
theorem tq_23 : Cond.fieldLink RX5 26 "SeamPictures" "pad" "LSeamPictures$Pad;" ∈ lw_tbl := List.mem_append_right _ (List.mem_append_left _ (List.mem_of_getElem? (i := 148) rfl))
set_option maxRecDepth 20000 in
theorem tq_24 : Cond.classLink RX5 30 RX1 ∈ lw_tbl := List.mem_append_right _ (List.mem_append_left _ (List.mem_of_getElem? (i := 87) rfl))
set_option maxRecDepth 20000 in
theorem tq_25 : Cond.instantiable RX1 6 ∈ lw_tbl := List.mem_append_right _ (List.mem_append_left _ (List.mem_of_getElem? (i := 88) rfl))
set_option maxRecDepth 20000 in
theorem tq_26 : Cond.initialized RX1 ∈ lw_tbl := List.mem_append_right _ (List.mem_append_left _ (List.mem_of_getElem? (i := 5) rfl))
set_option maxRecDepth 20000 in
theorem tq_27 : Cond.fieldLink RX5 33 "SeamPictures" "search" "LSeamPictures$OrderSearch;" ∈ lw_tbl := List.mem_append_right _ (List.mem_append_left _ (List.mem_of_getElem? (i := 149) rfl))
set_option maxRecDepth 20000 in
theorem tq_28 : Cond.classLink RX5 37 RX0 ∈ lw_tbl := List.mem_append_right _ (List.mem_append_left _ (List.mem_of_getElem? (i := 121) rfl))
set_option maxRecDepth 20000 in
theorem tq_29 : Cond.instantiable RX0 4 ∈ lw_tbl := List.mem_append_right _ (List.mem_append_left _ (List.mem_of_getElem? (i := 122) rfl))
set_option maxRecDepth 20000 in
theorem tq_30 : Cond.initialized RX0 ∈ lw_tbl := List.mem_append_right _ (List.mem_append_left _ (List.mem_of_getElem? (i := 6) rfl))
set_option maxRecDepth 20000 in
theorem tq_31 : Cond.fieldLink RX5 40 "SeamPictures" "costTable" "LSeamPictures$CostTable;" ∈ lw_tbl := List.mem_append_right _ (List.mem_append_left _ (List.mem_of_getElem? (i := 150) rfl))
set_option maxRecDepth 20000 in
theorem tq_32 : Cond.fieldLink RX5 44 "SeamPictures" "images" "[LSeamPictures$Picture;" ∈ lw_tbl := List.mem_append_right _ (List.mem_append_left _ (List.mem_of_getElem? (i := 151) rfl))
set_option maxRecDepth 20000 in
theorem tq_33 : Cond.arrayClass .boolean ∈ lw_tbl := List.mem_append_right _ (List.mem_append_left _ (List.mem_of_getElem? (i := 168) rfl))
set_option maxRecDepth 20000 in
theorem tq_34 : Cond.fieldLink RX5 48 "SeamPictures" "imageKept" "[Z" ∈ lw_tbl := List.mem_append_right _ (List.mem_append_left _ (List.mem_of_getElem? (i := 152) rfl))
set_option maxRecDepth 20000 in
theorem tq_35 : Cond.methodLink RX5 9 yX3_init ∈ lw_tbl := List.mem_append_right _ (List.mem_append_left _ (List.mem_of_getElem? (i := 19) rfl))
set_option maxRecDepth 20000 in
theorem tq_36 : Cond.instanceMethod yX3_init ∈ lw_tbl := List.mem_append_right _ (List.mem_append_left _ (List.mem_of_getElem? (i := 20) rfl))
set_option maxRecDepth 20000 in
theorem tq_37 : Cond.code yX3_init cX3_init 1 none ∈ lw_tbl := List.mem_append_right _ (List.mem_append_left _ (List.mem_of_getElem? (i := 21) rfl))
set_option maxRecDepth 20000 in
theorem tq_38 : Cond.methodLink RX3 3 objectInit ∈ lw_tbl := List.mem_append_right _ (List.mem_append_left _ (List.mem_of_getElem? (i := 22) rfl))
set_option maxRecDepth 20000 in
theorem tq_39 : Cond.fieldLink RX3 9 "SeamPictures$Picture" "wide" "I" ∈ lw_tbl := List.mem_append_right _ (List.mem_append_left _ (List.mem_of_getElem? (i := 23) rfl))
set_option maxRecDepth 20000 in
theorem tq_40 : Cond.fieldLink RX3 15 "SeamPictures$Picture" "high" "I" ∈ lw_tbl := List.mem_append_right _ (List.mem_append_left _ (List.mem_of_getElem? (i := 26) rfl))
set_option maxRecDepth 20000 in
theorem tq_41 : Cond.arrayClass .int ∈ lw_tbl := List.mem_append_right _ (List.mem_append_left _ (List.mem_of_getElem? (i := 44) rfl))
set_option maxRecDepth 20000 in
theorem tq_42 : Cond.fieldLink RX3 18 "SeamPictures$Picture" "greys" "[I" ∈ lw_tbl := List.mem_append_right _ (List.mem_append_left _ (List.mem_of_getElem? (i := 31) rfl))
set_option maxRecDepth 20000 in
theorem tq_43 : Cond.fieldLink RX3 22 "SeamPictures$Picture" "marks" "[I" ∈ lw_tbl := List.mem_append_right _ (List.mem_append_left _ (List.mem_of_getElem? (i := 32) rfl))
set_option maxRecDepth 20000 in
theorem tq_44 : Cond.methodLink RX5 18 yX4_init ∈ lw_tbl := List.mem_append_right _ (List.mem_append_left _ (List.mem_of_getElem? (i := 47) rfl))
set_option maxRecDepth 20000 in
theorem tq_45 : Cond.instanceMethod yX4_init ∈ lw_tbl := List.mem_append_right _ (List.mem_append_left _ (List.mem_of_getElem? (i := 48) rfl))
set_option maxRecDepth 20000 in
theorem tq_46 : Cond.code yX4_init cX4_init 1 none ∈ lw_tbl := List.mem_append_right _ (List.mem_append_left _ (List.mem_of_getElem? (i := 49) rfl))
set_option maxRecDepth 20000 in
theorem tq_47 : Cond.methodLink RX4 3 objectInit ∈ lw_tbl := List.mem_append_right _ (List.mem_append_left _ (List.mem_of_getElem? (i := 50) rfl))
set_option maxRecDepth 20000 in
theorem tq_48 : Cond.fieldLink RX4 9 "SeamPictures$Seam" "places" "[I" ∈ lw_tbl := List.mem_append_right _ (List.mem_append_left _ (List.mem_of_getElem? (i := 57) rfl))
set_option maxRecDepth 20000 in
theorem tq_49 : Cond.fieldLink RX4 15 "SeamPictures$Seam" "costToEnd" "[I" ∈ lw_tbl := List.mem_append_right _ (List.mem_append_left _ (List.mem_of_getElem? (i := 60) rfl))
set_option maxRecDepth 20000 in
theorem tq_50 : Cond.fieldLink RX4 18 "SeamPictures$Seam" "goesOnAt" "[I" ∈ lw_tbl := List.mem_append_right _ (List.mem_append_left _ (List.mem_of_getElem? (i := 61) rfl))
set_option maxRecDepth 20000 in
theorem tq_51 : Cond.methodLink RX5 25 yX2_init ∈ lw_tbl := List.mem_append_right _ (List.mem_append_left _ (List.mem_of_getElem? (i := 75) rfl))
set_option maxRecDepth 20000 in
theorem tq_52 : Cond.instanceMethod yX2_init ∈ lw_tbl := List.mem_append_right _ (List.mem_append_left _ (List.mem_of_getElem? (i := 76) rfl))
set_option maxRecDepth 20000 in
theorem tq_53 : Cond.code yX2_init cX2_init 1 none ∈ lw_tbl := List.mem_append_right _ (List.mem_append_left _ (List.mem_of_getElem? (i := 77) rfl))
set_option maxRecDepth 20000 in
theorem tq_54 : Cond.methodLink RX2 3 objectInit ∈ lw_tbl := List.mem_append_right _ (List.mem_append_left _ (List.mem_of_getElem? (i := 78) rfl))
set_option maxRecDepth 20000 in
theorem tq_55 : Cond.fieldLink RX2 11 "SeamPictures$Pad" "signs" "[I" ∈ lw_tbl := List.mem_append_right _ (List.mem_append_left _ (List.mem_of_getElem? (i := 81) rfl))
set_option maxRecDepth 20000 in
theorem tq_56 : Cond.methodLink RX5 32 yX1_init ∈ lw_tbl := List.mem_append_right _ (List.mem_append_left _ (List.mem_of_getElem? (i := 89) rfl))
set_option maxRecDepth 20000 in
theorem tq_57 : Cond.instanceMethod yX1_init ∈ lw_tbl := List.mem_append_right _ (List.mem_append_left _ (List.mem_of_getElem? (i := 90) rfl))
set_option maxRecDepth 20000 in
theorem tq_58 : Cond.code yX1_init cX1_init 2 none ∈ lw_tbl := List.mem_append_right _ (List.mem_append_left _ (List.mem_of_getElem? (i := 91) rfl))
set_option maxRecDepth 20000 in
theorem tq_59 : Cond.methodLink RX1 3 objectInit ∈ lw_tbl := List.mem_append_right _ (List.mem_append_left _ (List.mem_of_getElem? (i := 92) rfl))
set_option maxRecDepth 20000 in
theorem tq_60 : Cond.classLink RX1 9 RX3 ∈ lw_tbl := List.mem_append_right _ (List.mem_append_left _ (List.mem_of_getElem? (i := 93) rfl))
set_option maxRecDepth 20000 in
theorem tq_61 : Cond.fieldLink RX1 11 "SeamPictures$OrderSearch" "stages" "[LSeamPictures$Picture;" ∈ lw_tbl := List.mem_append_right _ (List.mem_append_left _ (List.mem_of_getElem? (i := 106) rfl))
set_option maxRecDepth 20000 in
theorem tq_62 : Cond.classLink RX1 18 RX4 ∈ lw_tbl := List.mem_append_right _ (List.mem_append_left _ (List.mem_of_getElem? (i := 96) rfl))
set_option maxRecDepth 20000 in
theorem tq_63 : Cond.fieldLink RX1 21 "SeamPictures$OrderSearch" "seam" "LSeamPictures$Seam;" ∈ lw_tbl := List.mem_append_right _ (List.mem_append_left _ (List.mem_of_getElem? (i := 107) rfl))
set_option maxRecDepth 20000 in
theorem tq_64 : Cond.methodLink RX1 17 yX3_init ∈ lw_tbl := List.mem_append_right _ (List.mem_append_left _ (List.mem_of_getElem? (i := 95) rfl))
set_option maxRecDepth 20000 in
theorem tq_65 : Cond.methodLink RX1 20 yX4_init ∈ lw_tbl := List.mem_append_right _ (List.mem_append_left _ (List.mem_of_getElem? (i := 97) rfl))
set_option maxRecDepth 20000 in
theorem tq_66 : Cond.methodLink RX5 39 yX0_init ∈ lw_tbl := List.mem_append_right _ (List.mem_append_left _ (List.mem_of_getElem? (i := 123) rfl))
set_option maxRecDepth 20000 in
theorem tq_67 : Cond.instanceMethod yX0_init ∈ lw_tbl := List.mem_append_right _ (List.mem_append_left _ (List.mem_of_getElem? (i := 124) rfl))
set_option maxRecDepth 20000 in
theorem tq_68 : Cond.code yX0_init cX0_init 2 none ∈ lw_tbl := List.mem_append_right _ (List.mem_append_left _ (List.mem_of_getElem? (i := 125) rfl))
set_option maxRecDepth 20000 in
theorem tq_69 : Cond.methodLink RX0 3 objectInit ∈ lw_tbl := List.mem_append_right _ (List.mem_append_left _ (List.mem_of_getElem? (i := 126) rfl))
set_option maxRecDepth 20000 in
theorem tq_70 : Cond.classLink RX0 9 RX3 ∈ lw_tbl := List.mem_append_right _ (List.mem_append_left _ (List.mem_of_getElem? (i := 127) rfl))
set_option maxRecDepth 20000 in
theorem tq_71 : Cond.fieldLink RX0 11 "SeamPictures$CostTable" "row" "[LSeamPictures$Picture;" ∈ lw_tbl := List.mem_append_right _ (List.mem_append_left _ (List.mem_of_getElem? (i := 131) rfl))
set_option maxRecDepth 20000 in
theorem tq_72 : Cond.fieldLink RX0 18 "SeamPictures$CostTable" "costs" "[I" ∈ lw_tbl := List.mem_append_right _ (List.mem_append_left _ (List.mem_of_getElem? (i := 133) rfl))
set_option maxRecDepth 20000 in
theorem tq_73 : Cond.classLink RX0 22 RX4 ∈ lw_tbl := List.mem_append_right _ (List.mem_append_left _ (List.mem_of_getElem? (i := 129) rfl))
set_option maxRecDepth 20000 in
theorem tq_74 : Cond.fieldLink RX0 25 "SeamPictures$CostTable" "upright" "LSeamPictures$Seam;" ∈ lw_tbl := List.mem_append_right _ (List.mem_append_left _ (List.mem_of_getElem? (i := 135) rfl))
set_option maxRecDepth 20000 in
theorem tq_75 : Cond.fieldLink RX0 29 "SeamPictures$CostTable" "lying" "LSeamPictures$Seam;" ∈ lw_tbl := List.mem_append_right _ (List.mem_append_left _ (List.mem_of_getElem? (i := 136) rfl))
set_option maxRecDepth 20000 in
theorem tq_76 : Cond.methodLink RX0 17 yX3_init ∈ lw_tbl := List.mem_append_right _ (List.mem_append_left _ (List.mem_of_getElem? (i := 128) rfl))
set_option maxRecDepth 20000 in
theorem tq_77 : Cond.methodLink RX0 24 yX4_init ∈ lw_tbl := List.mem_append_right _ (List.mem_append_left _ (List.mem_of_getElem? (i := 130) rfl))
set_option maxRecDepth 20000 in
theorem tq_78 : Cond.methodLink RL 12 yX6_init ∈ lw_tbl := List.mem_append_right _ (List.mem_append_right _ (List.mem_append_left _ (List.mem_of_getElem? (i := 234) rfl)))
set_option maxRecDepth 20000 in
theorem tq_79 : Cond.instanceMethod yX6_init ∈ lw_tbl := List.mem_append_right _ (List.mem_append_right _ (List.mem_append_left _ (List.mem_of_getElem? (i := 235) rfl)))
set_option maxRecDepth 20000 in
theorem tq_80 : Cond.code yX6_init cX6_init 1 none ∈ lw_tbl := List.mem_append_right _ (List.mem_append_right _ (List.mem_append_left _ (List.mem_of_getElem? (i := 236) rfl)))
set_option maxRecDepth 20000 in
theorem tq_81 : Cond.methodLink RX6 1 objectInit ∈ lw_tbl := List.mem_append_right _ (List.mem_append_right _ (List.mem_append_left _ (List.mem_of_getElem? (i := 237) rfl)))
set_option maxRecDepth 20000 in
theorem tq_82 : Cond.fieldLink RX6 7 "SeamPicturesModel" "state" "[I" ∈ lw_tbl := List.mem_append_right _ (List.mem_append_right _ (List.mem_append_left _ (List.mem_of_getElem? (i := 238) rfl)))
set_option maxRecDepth 20000 in
theorem tq_83 : Cond.fieldLink RX6 13 "SeamPicturesModel" "images" "[I" ∈ lw_tbl := List.mem_append_right _ (List.mem_append_right _ (List.mem_append_left _ (List.mem_of_getElem? (i := 239) rfl)))
set_option maxRecDepth 20000 in
theorem tq_84 : Cond.fieldLink RX6 16 "SeamPicturesModel" "isKept" "[Z" ∈ lw_tbl := List.mem_append_right _ (List.mem_append_right _ (List.mem_append_right _ (List.mem_append_left _ (List.mem_of_getElem? (i := 0) rfl))))
set_option maxRecDepth 20000 in
theorem tq_85 : Cond.fieldLink RX6 20 "SeamPicturesModel" "pad" "[I" ∈ lw_tbl := List.mem_append_right _ (List.mem_append_right _ (List.mem_append_right _ (List.mem_append_left _ (List.mem_of_getElem? (i := 1) rfl))))
set_option maxRecDepth 20000 in
theorem tq_86 : Cond.fieldLink RX6 23 "SeamPicturesModel" "grey" "[I" ∈ lw_tbl := List.mem_append_right _ (List.mem_append_right _ (List.mem_append_right _ (List.mem_append_left _ (List.mem_of_getElem? (i := 3) rfl))))
set_option maxRecDepth 20000 in
theorem tq_87 : Cond.fieldLink RX6 26 "SeamPicturesModel" "mark" "[I" ∈ lw_tbl := List.mem_append_right _ (List.mem_append_right _ (List.mem_append_right _ (List.mem_append_left _ (List.mem_of_getElem? (i := 4) rfl))))
set_option maxRecDepth 20000 in
theorem tq_88 : Cond.fieldLink RX6 29 "SeamPicturesModel" "rest" "[I" ∈ lw_tbl := List.mem_append_right _ (List.mem_append_right _ (List.mem_append_right _ (List.mem_append_left _ (List.mem_of_getElem? (i := 7) rfl))))
set_option maxRecDepth 20000 in
theorem tq_89 : Cond.fieldLink RX6 32 "SeamPicturesModel" "seam" "[I" ∈ lw_tbl := List.mem_append_right _ (List.mem_append_right _ (List.mem_append_right _ (List.mem_append_left _ (List.mem_of_getElem? (i := 8) rfl))))
set_option maxRecDepth 20000 in
theorem tq_90 : Cond.fieldLink RX6 35 "SeamPicturesModel" "table" "[I" ∈ lw_tbl := List.mem_append_right _ (List.mem_append_right _ (List.mem_append_right _ (List.mem_append_left _ (List.mem_of_getElem? (i := 15) rfl))))
set_option maxRecDepth 20000 in
theorem tq_91 : Cond.fieldLink RX6 38 "SeamPicturesModel" "tableCost" "[I" ∈ lw_tbl := List.mem_append_right _ (List.mem_append_right _ (List.mem_append_right _ (List.mem_append_left _ (List.mem_of_getElem? (i := 16) rfl))))
set_option maxRecDepth 20000 in
theorem tq_92 : Cond.methodLink RL 13 yX5_size ∈ lw_tbl := List.mem_append_right _ (List.mem_append_left _ (List.mem_of_getElem? (i := 169) rfl))
set_option maxRecDepth 20000 in
theorem tq_93 : Cond.instanceMethod yX5_size ∈ lw_tbl := List.mem_append_right _ (List.mem_append_left _ (List.mem_of_getElem? (i := 170) rfl))
set_option maxRecDepth 20000 in
theorem tq_94 : Cond.selects RX5 yX5_size yX5_size ∈ lw_tbl := List.mem_append_right _ (List.mem_append_left _ (List.mem_of_getElem? (i := 171) rfl))
set_option maxRecDepth 20000 in
theorem tq_95 : Cond.code yX5_size cX5_size 4 (some .int) ∈ lw_tbl := List.mem_append_right _ (List.mem_append_left _ (List.mem_of_getElem? (i := 172) rfl))
set_option maxRecDepth 20000 in
theorem tq_96 : Cond.fieldLink RX5 56 "SeamPictures$Picture" "wide" "I" ∈ lw_tbl := List.mem_append_right _ (List.mem_append_left _ (List.mem_of_getElem? (i := 24) rfl))
set_option maxRecDepth 20000 in
theorem tq_97 : Cond.fieldLink RX5 60 "SeamPictures$Picture" "high" "I" ∈ lw_tbl := List.mem_append_right _ (List.mem_append_left _ (List.mem_of_getElem? (i := 27) rfl))
set_option maxRecDepth 20000 in
theorem tq_98 : Cond.methodLink RX5 52 yX5_isSide ∈ lw_tbl := List.mem_append_right _ (List.mem_append_left _ (List.mem_of_getElem? (i := 173) rfl))
set_option maxRecDepth 20000 in
theorem tq_99 : Cond.static yX5_isSide ∈ lw_tbl := List.mem_append_right _ (List.mem_append_left _ (List.mem_of_getElem? (i := 174) rfl))
set_option maxRecDepth 20000 in
theorem tq_100 : Cond.code yX5_isSide cX5_isSide 1 (some .boolean) ∈ lw_tbl := List.mem_append_right _ (List.mem_append_left _ (List.mem_of_getElem? (i := 175) rfl))
set_option maxRecDepth 20000 in
theorem tq_101 : Cond.methodLink RX5 63 yX3_blank ∈ lw_tbl := List.mem_append_right _ (List.mem_append_left _ (List.mem_of_getElem? (i := 176) rfl))
set_option maxRecDepth 20000 in
theorem tq_102 : Cond.instanceMethod yX3_blank ∈ lw_tbl := List.mem_append_right _ (List.mem_append_left _ (List.mem_of_getElem? (i := 177) rfl))
set_option maxRecDepth 20000 in
theorem tq_103 : Cond.selects RX3 yX3_blank yX3_blank ∈ lw_tbl := List.mem_append_right _ (List.mem_append_left _ (List.mem_of_getElem? (i := 178) rfl))
set_option maxRecDepth 20000 in
theorem tq_104 : Cond.code yX3_blank cX3_blank 4 none ∈ lw_tbl := List.mem_append_right _ (List.mem_append_left _ (List.mem_of_getElem? (i := 179) rfl))
set_option maxRecDepth 20000 in
theorem tq_105 : Cond.methodLink RL 17 yX6_size_ ∈ lw_tbl := List.mem_append_right _ (List.mem_append_right _ (List.mem_append_right _ (List.mem_append_left _ (List.mem_of_getElem? (i := 56) rfl))))
set_option maxRecDepth 20000 in
theorem tq_106 : Cond.instanceMethod yX6_size_ ∈ lw_tbl := List.mem_append_right _ (List.mem_append_right _ (List.mem_append_right _ (List.mem_append_left _ (List.mem_of_getElem? (i := 57) rfl))))
set_option maxRecDepth 20000 in
theorem tq_107 : Cond.selects RX6 yX6_size_ yX6_size_ ∈ lw_tbl := List.mem_append_right _ (List.mem_append_right _ (List.mem_append_right _ (List.mem_append_left _ (List.mem_of_getElem? (i := 58) rfl))))
set_option maxRecDepth 20000 in
theorem tq_108 : Cond.code yX6_size_ cX6_size_ 5 (some .int) ∈ lw_tbl := List.mem_append_right _ (List.mem_append_right _ (List.mem_append_right _ (List.mem_append_left _ (List.mem_of_getElem? (i := 59) rfl))))
set_option maxRecDepth 20000 in
theorem tq_109 : Cond.methodLink RX6 41 yX6_in ∈ lw_tbl := List.mem_append_right _ (List.mem_append_right _ (List.mem_append_right _ (List.mem_append_left _ (List.mem_of_getElem? (i := 60) rfl))))
set_option maxRecDepth 20000 in
theorem tq_110 : Cond.static yX6_in ∈ lw_tbl := List.mem_append_right _ (List.mem_append_right _ (List.mem_append_right _ (List.mem_append_left _ (List.mem_of_getElem? (i := 61) rfl))))
set_option maxRecDepth 20000 in
theorem tq_111 : Cond.code yX6_in cX6_in 3 (some .boolean) ∈ lw_tbl := List.mem_append_right _ (List.mem_append_right _ (List.mem_append_right _ (List.mem_append_left _ (List.mem_of_getElem? (i := 62) rfl))))
set_option maxRecDepth 20000 in
theorem tq_112 : Cond.methodLink RL 18 yX5_grey ∈ lw_tbl := List.mem_append_right _ (List.mem_append_left _ (List.mem_of_getElem? (i := 180) rfl))
set_option maxRecDepth 20000 in
theorem tq_113 : Cond.instanceMethod yX5_grey ∈ lw_tbl := List.mem_append_right _ (List.mem_append_left _ (List.mem_of_getElem? (i := 181) rfl))
set_option maxRecDepth 20000 in
theorem tq_114 : Cond.selects RX5 yX5_grey yX5_grey ∈ lw_tbl := List.mem_append_right _ (List.mem_append_left _ (List.mem_of_getElem? (i := 182) rfl))
set_option maxRecDepth 20000 in
theorem tq_115 : Cond.code yX5_grey cX5_grey 4 (some .int) ∈ lw_tbl := List.mem_append_right _ (List.mem_append_left _ (List.mem_of_getElem? (i := 183) rfl))
set_option maxRecDepth 20000 in
theorem tq_116 : Cond.methodLink RX5 67 yX3_hasDot ∈ lw_tbl := List.mem_append_right _ (List.mem_append_left _ (List.mem_of_getElem? (i := 184) rfl))
set_option maxRecDepth 20000 in
theorem tq_117 : Cond.instanceMethod yX3_hasDot ∈ lw_tbl := List.mem_append_right _ (List.mem_append_left _ (List.mem_of_getElem? (i := 185) rfl))
set_option maxRecDepth 20000 in
theorem tq_118 : Cond.selects RX3 yX3_hasDot yX3_hasDot ∈ lw_tbl := List.mem_append_right _ (List.mem_append_left _ (List.mem_of_getElem? (i := 186) rfl))
set_option maxRecDepth 20000 in
theorem tq_119 : Cond.code yX3_hasDot cX3_hasDot 3 (some .boolean) ∈ lw_tbl := List.mem_append_right _ (List.mem_append_left _ (List.mem_of_getElem? (i := 187) rfl))
set_option maxRecDepth 20000 in
theorem tq_120 : Cond.methodLink RX5 71 yX3_changeGrey ∈ lw_tbl := List.mem_append_right _ (List.mem_append_left _ (List.mem_of_getElem? (i := 188) rfl))
set_option maxRecDepth 20000 in
theorem tq_121 : Cond.instanceMethod yX3_changeGrey ∈ lw_tbl := List.mem_append_right _ (List.mem_append_left _ (List.mem_of_getElem? (i := 189) rfl))
set_option maxRecDepth 20000 in
theorem tq_122 : Cond.selects RX3 yX3_changeGrey yX3_changeGrey ∈ lw_tbl := List.mem_append_right _ (List.mem_append_left _ (List.mem_of_getElem? (i := 190) rfl))
set_option maxRecDepth 20000 in
theorem tq_123 : Cond.code yX3_changeGrey cX3_changeGrey 6 (some .int) ∈ lw_tbl := List.mem_append_right _ (List.mem_append_left _ (List.mem_of_getElem? (i := 191) rfl))
set_option maxRecDepth 20000 in
theorem tq_124 : Cond.methodLink RX3 28 yX3_index ∈ lw_tbl := List.mem_append_right _ (List.mem_append_left _ (List.mem_of_getElem? (i := 192) rfl))
set_option maxRecDepth 20000 in
theorem tq_125 : Cond.static yX3_index ∈ lw_tbl := List.mem_append_right _ (List.mem_append_left _ (List.mem_of_getElem? (i := 193) rfl))
set_option maxRecDepth 20000 in
theorem tq_126 : Cond.code yX3_index cX3_index 3 (some .int) ∈ lw_tbl := List.mem_append_right _ (List.mem_append_left _ (List.mem_of_getElem? (i := 194) rfl))
set_option maxRecDepth 20000 in
theorem tq_127 : Cond.methodLink RL 22 yX6_grey ∈ lw_tbl := List.mem_append_right _ (List.mem_append_right _ (List.mem_append_right _ (List.mem_append_left _ (List.mem_of_getElem? (i := 63) rfl))))
set_option maxRecDepth 20000 in
theorem tq_128 : Cond.instanceMethod yX6_grey ∈ lw_tbl := List.mem_append_right _ (List.mem_append_right _ (List.mem_append_right _ (List.mem_append_left _ (List.mem_of_getElem? (i := 64) rfl))))
set_option maxRecDepth 20000 in
theorem tq_129 : Cond.selects RX6 yX6_grey yX6_grey ∈ lw_tbl := List.mem_append_right _ (List.mem_append_right _ (List.mem_append_right _ (List.mem_append_left _ (List.mem_of_getElem? (i := 65) rfl))))
set_option maxRecDepth 20000 in
theorem tq_130 : Cond.code yX6_grey cX6_grey 5 (some .int) ∈ lw_tbl := List.mem_append_right _ (List.mem_append_right _ (List.mem_append_right _ (List.mem_append_left _ (List.mem_of_getElem? (i := 66) rfl))))
set_option maxRecDepth 20000 in
theorem tq_131 : Cond.methodLink RX6 120 yX6_isDot ∈ lw_tbl := List.mem_append_right _ (List.mem_append_right _ (List.mem_append_right _ (List.mem_append_left _ (List.mem_of_getElem? (i := 67) rfl))))
set_option maxRecDepth 20000 in
theorem tq_132 : Cond.instanceMethod yX6_isDot ∈ lw_tbl := List.mem_append_right _ (List.mem_append_right _ (List.mem_append_right _ (List.mem_append_left _ (List.mem_of_getElem? (i := 69) rfl))))
set_option maxRecDepth 20000 in
theorem tq_133 : Cond.selects RX6 yX6_isDot yX6_isDot ∈ lw_tbl := List.mem_append_left _ (List.mem_of_getElem? (i := 16) rfl)
set_option maxRecDepth 20000 in
theorem tq_134 : Cond.code yX6_isDot cX6_isDot 3 (some .boolean) ∈ lw_tbl := List.mem_append_right _ (List.mem_append_right _ (List.mem_append_right _ (List.mem_append_left _ (List.mem_of_getElem? (i := 70) rfl))))
set_option maxRecDepth 20000 in
theorem tq_135 : Cond.methodLink RX6 52 yX6_at ∈ lw_tbl := List.mem_append_right _ (List.mem_append_right _ (List.mem_append_right _ (List.mem_append_left _ (List.mem_of_getElem? (i := 71) rfl))))
set_option maxRecDepth 20000 in
theorem tq_136 : Cond.static yX6_at ∈ lw_tbl := List.mem_append_right _ (List.mem_append_right _ (List.mem_append_right _ (List.mem_append_left _ (List.mem_of_getElem? (i := 72) rfl))))
set_option maxRecDepth 20000 in
theorem tq_137 : Cond.code yX6_at cX6_at 2 (some .int) ∈ lw_tbl := List.mem_append_right _ (List.mem_append_right _ (List.mem_append_right _ (List.mem_append_left _ (List.mem_of_getElem? (i := 73) rfl))))
set_option maxRecDepth 20000 in
theorem tq_138 : Cond.methodLink RL 23 yX5_mark ∈ lw_tbl := List.mem_append_right _ (List.mem_append_left _ (List.mem_of_getElem? (i := 195) rfl))
set_option maxRecDepth 20000 in
theorem tq_139 : Cond.instanceMethod yX5_mark ∈ lw_tbl := List.mem_append_right _ (List.mem_append_left _ (List.mem_of_getElem? (i := 196) rfl))
set_option maxRecDepth 20000 in
theorem tq_140 : Cond.selects RX5 yX5_mark yX5_mark ∈ lw_tbl := List.mem_append_right _ (List.mem_append_left _ (List.mem_of_getElem? (i := 197) rfl))
set_option maxRecDepth 20000 in
theorem tq_141 : Cond.code yX5_mark cX5_mark 4 (some .int) ∈ lw_tbl := List.mem_append_right _ (List.mem_append_left _ (List.mem_of_getElem? (i := 198) rfl))
set_option maxRecDepth 20000 in
theorem tq_142 : Cond.methodLink RX5 75 yX3_changeMark ∈ lw_tbl := List.mem_append_right _ (List.mem_append_left _ (List.mem_of_getElem? (i := 199) rfl))
set_option maxRecDepth 20000 in
theorem tq_143 : Cond.instanceMethod yX3_changeMark ∈ lw_tbl := List.mem_append_right _ (List.mem_append_left _ (List.mem_of_getElem? (i := 200) rfl))
set_option maxRecDepth 20000 in
theorem tq_144 : Cond.selects RX3 yX3_changeMark yX3_changeMark ∈ lw_tbl := List.mem_append_right _ (List.mem_append_left _ (List.mem_of_getElem? (i := 201) rfl))
set_option maxRecDepth 20000 in
theorem tq_145 : Cond.code yX3_changeMark cX3_changeMark 6 (some .int) ∈ lw_tbl := List.mem_append_right _ (List.mem_append_left _ (List.mem_of_getElem? (i := 202) rfl))
set_option maxRecDepth 20000 in
theorem tq_146 : Cond.methodLink RL 26 yX6_mark ∈ lw_tbl := List.mem_append_right _ (List.mem_append_right _ (List.mem_append_right _ (List.mem_append_left _ (List.mem_of_getElem? (i := 74) rfl))))
set_option maxRecDepth 20000 in
theorem tq_147 : Cond.instanceMethod yX6_mark ∈ lw_tbl := List.mem_append_right _ (List.mem_append_right _ (List.mem_append_right _ (List.mem_append_left _ (List.mem_of_getElem? (i := 75) rfl))))
set_option maxRecDepth 20000 in
theorem tq_148 : Cond.selects RX6 yX6_mark yX6_mark ∈ lw_tbl := List.mem_append_right _ (List.mem_append_right _ (List.mem_append_right _ (List.mem_append_left _ (List.mem_of_getElem? (i := 76) rfl))))
set_option maxRecDepth 20000 in
theorem tq_149 : Cond.code yX6_mark cX6_mark 5 (some .int) ∈ lw_tbl := List.mem_append_right _ (List.mem_append_right _ (List.mem_append_right _ (List.mem_append_left _ (List.mem_of_getElem? (i := 77) rfl))))
set_option maxRecDepth 20000 in
theorem tq_150 : Cond.methodLink RL 27 yX5_rule ∈ lw_tbl := List.mem_append_right _ (List.mem_append_left _ (List.mem_of_getElem? (i := 203) rfl))
set_option maxRecDepth 20000 in
theorem tq_151 : Cond.instanceMethod yX5_rule ∈ lw_tbl := List.mem_append_right _ (List.mem_append_left _ (List.mem_of_getElem? (i := 204) rfl))
set_option maxRecDepth 20000 in
theorem tq_152 : Cond.selects RX5 yX5_rule yX5_rule ∈ lw_tbl := List.mem_append_right _ (List.mem_append_left _ (List.mem_of_getElem? (i := 205) rfl))
set_option maxRecDepth 20000 in
theorem tq_153 : Cond.code yX5_rule cX5_rule 3 (some .int) ∈ lw_tbl := List.mem_append_right _ (List.mem_append_left _ (List.mem_of_getElem? (i := 206) rfl))
set_option maxRecDepth 20000 in
theorem tq_154 : Cond.fieldLink RX5 81 "SeamPictures$Picture" "law" "I" ∈ lw_tbl := List.mem_append_right _ (List.mem_append_left _ (List.mem_of_getElem? (i := 30) rfl))
set_option maxRecDepth 20000 in
theorem tq_155 : Cond.methodLink RX5 78 yX5_isBit ∈ lw_tbl := List.mem_append_right _ (List.mem_append_left _ (List.mem_of_getElem? (i := 207) rfl))
set_option maxRecDepth 20000 in
theorem tq_156 : Cond.static yX5_isBit ∈ lw_tbl := List.mem_append_right _ (List.mem_append_left _ (List.mem_of_getElem? (i := 208) rfl))
set_option maxRecDepth 20000 in
theorem tq_157 : Cond.code yX5_isBit cX5_isBit 1 (some .boolean) ∈ lw_tbl := List.mem_append_right _ (List.mem_append_left _ (List.mem_of_getElem? (i := 209) rfl))
set_option maxRecDepth 20000 in
theorem tq_158 : Cond.methodLink RL 31 yX6_rule ∈ lw_tbl := List.mem_append_right _ (List.mem_append_right _ (List.mem_append_right _ (List.mem_append_left _ (List.mem_of_getElem? (i := 78) rfl))))
set_option maxRecDepth 20000 in
theorem tq_159 : Cond.instanceMethod yX6_rule ∈ lw_tbl := List.mem_append_right _ (List.mem_append_right _ (List.mem_append_right _ (List.mem_append_left _ (List.mem_of_getElem? (i := 79) rfl))))
set_option maxRecDepth 20000 in
theorem tq_160 : Cond.selects RX6 yX6_rule yX6_rule ∈ lw_tbl := List.mem_append_right _ (List.mem_append_right _ (List.mem_append_right _ (List.mem_append_left _ (List.mem_of_getElem? (i := 80) rfl))))
set_option maxRecDepth 20000 in
theorem tq_161 : Cond.code yX6_rule cX6_rule 3 (some .int) ∈ lw_tbl := List.mem_append_right _ (List.mem_append_right _ (List.mem_append_right _ (List.mem_append_left _ (List.mem_of_getElem? (i := 81) rfl))))
set_option maxRecDepth 20000 in
theorem tq_162 : Cond.methodLink RL 32 yX5_dot ∈ lw_tbl := List.mem_append_right _ (List.mem_append_left _ (List.mem_of_getElem? (i := 210) rfl))
set_option maxRecDepth 20000 in
theorem tq_163 : Cond.instanceMethod yX5_dot ∈ lw_tbl := List.mem_append_right _ (List.mem_append_left _ (List.mem_of_getElem? (i := 211) rfl))
set_option maxRecDepth 20000 in
theorem tq_164 : Cond.selects RX5 yX5_dot yX5_dot ∈ lw_tbl := List.mem_append_right _ (List.mem_append_left _ (List.mem_of_getElem? (i := 212) rfl))
set_option maxRecDepth 20000 in
theorem tq_165 : Cond.code yX5_dot cX5_dot 4 (some .int) ∈ lw_tbl := List.mem_append_right _ (List.mem_append_left _ (List.mem_of_getElem? (i := 213) rfl))
set_option maxRecDepth 20000 in
theorem tq_166 : Cond.methodLink RX5 84 yX3_greyAt ∈ lw_tbl := List.mem_append_right _ (List.mem_append_left _ (List.mem_of_getElem? (i := 214) rfl))
set_option maxRecDepth 20000 in
theorem tq_167 : Cond.instanceMethod yX3_greyAt ∈ lw_tbl := List.mem_append_right _ (List.mem_append_left _ (List.mem_of_getElem? (i := 215) rfl))
set_option maxRecDepth 20000 in
theorem tq_168 : Cond.selects RX3 yX3_greyAt yX3_greyAt ∈ lw_tbl := List.mem_append_right _ (List.mem_append_left _ (List.mem_of_getElem? (i := 216) rfl))
set_option maxRecDepth 20000 in
theorem tq_169 : Cond.code yX3_greyAt cX3_greyAt 4 (some .int) ∈ lw_tbl := List.mem_append_right _ (List.mem_append_left _ (List.mem_of_getElem? (i := 217) rfl))
set_option maxRecDepth 20000 in
theorem tq_170 : Cond.methodLink RX5 87 yX3_markAt ∈ lw_tbl := List.mem_append_right _ (List.mem_append_left _ (List.mem_of_getElem? (i := 218) rfl))
set_option maxRecDepth 20000 in
theorem tq_171 : Cond.instanceMethod yX3_markAt ∈ lw_tbl := List.mem_append_right _ (List.mem_append_left _ (List.mem_of_getElem? (i := 219) rfl))
set_option maxRecDepth 20000 in
theorem tq_172 : Cond.selects RX3 yX3_markAt yX3_markAt ∈ lw_tbl := List.mem_append_right _ (List.mem_append_left _ (List.mem_of_getElem? (i := 220) rfl))
set_option maxRecDepth 20000 in
theorem tq_173 : Cond.code yX3_markAt cX3_markAt 4 (some .int) ∈ lw_tbl := List.mem_append_right _ (List.mem_append_left _ (List.mem_of_getElem? (i := 221) rfl))
set_option maxRecDepth 20000 in
theorem tq_174 : Cond.methodLink RX5 90 yX3_edgeAt ∈ lw_tbl := List.mem_append_right _ (List.mem_append_left _ (List.mem_of_getElem? (i := 222) rfl))
set_option maxRecDepth 20000 in
theorem tq_175 : Cond.instanceMethod yX3_edgeAt ∈ lw_tbl := List.mem_append_right _ (List.mem_append_left _ (List.mem_of_getElem? (i := 223) rfl))
set_option maxRecDepth 20000 in
theorem tq_176 : Cond.selects RX3 yX3_edgeAt yX3_edgeAt ∈ lw_tbl := List.mem_append_right _ (List.mem_append_left _ (List.mem_of_getElem? (i := 224) rfl))
set_option maxRecDepth 20000 in
theorem tq_177 : Cond.code yX3_edgeAt cX3_edgeAt 3 (some .int) ∈ lw_tbl := List.mem_append_right _ (List.mem_append_left _ (List.mem_of_getElem? (i := 225) rfl))
set_option maxRecDepth 20000 in
theorem tq_178 : Cond.methodLink RX3 48 yX3_gapAt ∈ lw_tbl := List.mem_append_right _ (List.mem_append_left _ (List.mem_of_getElem? (i := 226) rfl))
set_option maxRecDepth 20000 in
theorem tq_179 : Cond.instanceMethod yX3_gapAt ∈ lw_tbl := List.mem_append_right _ (List.mem_append_left _ (List.mem_of_getElem? (i := 228) rfl))
set_option maxRecDepth 20000 in
theorem tq_180 : Cond.selects RX3 yX3_gapAt yX3_gapAt ∈ lw_tbl := List.mem_append_left _ (List.mem_of_getElem? (i := 0) rfl)
set_option maxRecDepth 20000 in
theorem tq_181 : Cond.code yX3_gapAt cX3_gapAt 6 (some .int) ∈ lw_tbl := List.mem_append_right _ (List.mem_append_left _ (List.mem_of_getElem? (i := 229) rfl))
set_option maxRecDepth 20000 in
theorem tq_182 : Cond.methodLink RX3 32 Lib.Math.max.name ∈ lw_tbl := List.mem_append_right _ (List.mem_append_left _ (List.mem_of_getElem? (i := 230) rfl))
set_option maxRecDepth 20000 in
theorem tq_183 : Cond.static Lib.Math.max.name ∈ lw_tbl := List.mem_append_right _ (List.mem_append_left _ (List.mem_of_getElem? (i := 231) rfl))
set_option maxRecDepth 20000 in
theorem tq_184 : Cond.initialized "java/lang/Math" ∈ lw_tbl := List.mem_append_right _ (List.mem_append_left _ (List.mem_of_getElem? (i := 8) rfl))
set_option maxRecDepth 20000 in
theorem tq_185 : Cond.code Lib.Math.max.name Lib.Math.max.code 2 (some .int) ∈ lw_tbl := List.mem_append_right _ (List.mem_append_left _ (List.mem_of_getElem? (i := 232) rfl))
set_option maxRecDepth 20000 in
theorem tq_186 : Cond.methodLink RX3 42 Lib.Math.min.name ∈ lw_tbl := List.mem_append_right _ (List.mem_append_left _ (List.mem_of_getElem? (i := 237) rfl))
set_option maxRecDepth 20000 in
theorem tq_187 : Cond.static Lib.Math.min.name ∈ lw_tbl := List.mem_append_right _ (List.mem_append_left _ (List.mem_of_getElem? (i := 238) rfl))
set_option maxRecDepth 20000 in
theorem tq_188 : Cond.code Lib.Math.min.name Lib.Math.min.code 2 (some .int) ∈ lw_tbl := List.mem_append_right _ (List.mem_append_left _ (List.mem_of_getElem? (i := 239) rfl))
set_option maxRecDepth 20000 in
theorem tq_189 : Cond.methodLink RX3 45 Lib.Math.abs.name ∈ lw_tbl := List.mem_append_right _ (List.mem_append_right _ (List.mem_append_left _ (List.mem_of_getElem? (i := 0) rfl)))
set_option maxRecDepth 20000 in
theorem tq_190 : Cond.static Lib.Math.abs.name ∈ lw_tbl := List.mem_append_right _ (List.mem_append_right _ (List.mem_append_left _ (List.mem_of_getElem? (i := 1) rfl)))
set_option maxRecDepth 20000 in
theorem tq_191 : Cond.code Lib.Math.abs.name Lib.Math.abs.code 1 (some .int) ∈ lw_tbl := List.mem_append_right _ (List.mem_append_right _ (List.mem_append_left _ (List.mem_of_getElem? (i := 2) rfl)))
set_option maxRecDepth 20000 in
theorem tq_192 : Cond.methodLink RX3 38 yX3_breadth ∈ lw_tbl := List.mem_append_right _ (List.mem_append_left _ (List.mem_of_getElem? (i := 233) rfl))
set_option maxRecDepth 20000 in
theorem tq_193 : Cond.instanceMethod yX3_breadth ∈ lw_tbl := List.mem_append_right _ (List.mem_append_left _ (List.mem_of_getElem? (i := 234) rfl))
set_option maxRecDepth 20000 in
theorem tq_194 : Cond.selects RX3 yX3_breadth yX3_breadth ∈ lw_tbl := List.mem_append_right _ (List.mem_append_left _ (List.mem_of_getElem? (i := 235) rfl))
set_option maxRecDepth 20000 in
theorem tq_195 : Cond.code yX3_breadth cX3_breadth 2 (some .int) ∈ lw_tbl := List.mem_append_right _ (List.mem_append_left _ (List.mem_of_getElem? (i := 236) rfl))
set_option maxRecDepth 20000 in
theorem tq_196 : Cond.methodLink RX5 94 yX3_weightAt ∈ lw_tbl := List.mem_append_right _ (List.mem_append_right _ (List.mem_append_left _ (List.mem_of_getElem? (i := 3) rfl)))
set_option maxRecDepth 20000 in
theorem tq_197 : Cond.instanceMethod yX3_weightAt ∈ lw_tbl := List.mem_append_right _ (List.mem_append_right _ (List.mem_append_left _ (List.mem_of_getElem? (i := 4) rfl)))
set_option maxRecDepth 20000 in
theorem tq_198 : Cond.selects RX3 yX3_weightAt yX3_weightAt ∈ lw_tbl := List.mem_append_right _ (List.mem_append_right _ (List.mem_append_left _ (List.mem_of_getElem? (i := 5) rfl)))
set_option maxRecDepth 20000 in
theorem tq_199 : Cond.code yX3_weightAt cX3_weightAt 3 (some .int) ∈ lw_tbl := List.mem_append_right _ (List.mem_append_right _ (List.mem_append_left _ (List.mem_of_getElem? (i := 6) rfl)))
set_option maxRecDepth 20000 in
theorem tq_200 : Cond.methodLink RX3 51 yX3_edgeAt ∈ lw_tbl := List.mem_append_right _ (List.mem_append_right _ (List.mem_append_left _ (List.mem_of_getElem? (i := 7) rfl)))
set_option maxRecDepth 20000 in
theorem tq_201 : Cond.methodLink RX3 54 yX3_extraAt ∈ lw_tbl := List.mem_append_right _ (List.mem_append_right _ (List.mem_append_left _ (List.mem_of_getElem? (i := 8) rfl)))
set_option maxRecDepth 20000 in
theorem tq_202 : Cond.instanceMethod yX3_extraAt ∈ lw_tbl := List.mem_append_right _ (List.mem_append_right _ (List.mem_append_left _ (List.mem_of_getElem? (i := 10) rfl)))
set_option maxRecDepth 20000 in
theorem tq_203 : Cond.selects RX3 yX3_extraAt yX3_extraAt ∈ lw_tbl := List.mem_append_left _ (List.mem_of_getElem? (i := 1) rfl)
set_option maxRecDepth 20000 in
theorem tq_204 : Cond.code yX3_extraAt cX3_extraAt 5 (some .int) ∈ lw_tbl := List.mem_append_right _ (List.mem_append_right _ (List.mem_append_left _ (List.mem_of_getElem? (i := 11) rfl)))
set_option maxRecDepth 20000 in
theorem tq_205 : Cond.methodLink RL 35 yX6_dot ∈ lw_tbl := List.mem_append_right _ (List.mem_append_right _ (List.mem_append_right _ (List.mem_append_left _ (List.mem_of_getElem? (i := 82) rfl))))
set_option maxRecDepth 20000 in
theorem tq_206 : Cond.instanceMethod yX6_dot ∈ lw_tbl := List.mem_append_right _ (List.mem_append_right _ (List.mem_append_right _ (List.mem_append_left _ (List.mem_of_getElem? (i := 83) rfl))))
set_option maxRecDepth 20000 in
theorem tq_207 : Cond.selects RX6 yX6_dot yX6_dot ∈ lw_tbl := List.mem_append_right _ (List.mem_append_right _ (List.mem_append_right _ (List.mem_append_left _ (List.mem_of_getElem? (i := 84) rfl))))
set_option maxRecDepth 20000 in
theorem tq_208 : Cond.code yX6_dot cX6_dot 4 (some .int) ∈ lw_tbl := List.mem_append_right _ (List.mem_append_right _ (List.mem_append_right _ (List.mem_append_left _ (List.mem_of_getElem? (i := 85) rfl))))
set_option maxRecDepth 20000 in
theorem tq_209 : Cond.methodLink RX6 124 yX6_take ∈ lw_tbl := List.mem_append_right _ (List.mem_append_right _ (List.mem_append_right _ (List.mem_append_left _ (List.mem_of_getElem? (i := 86) rfl))))
set_option maxRecDepth 20000 in
theorem tq_210 : Cond.instanceMethod yX6_take ∈ lw_tbl := List.mem_append_right _ (List.mem_append_right _ (List.mem_append_right _ (List.mem_append_left _ (List.mem_of_getElem? (i := 88) rfl))))
set_option maxRecDepth 20000 in
theorem tq_211 : Cond.selects RX6 yX6_take yX6_take ∈ lw_tbl := List.mem_append_left _ (List.mem_of_getElem? (i := 17) rfl)
set_option maxRecDepth 20000 in
theorem tq_212 : Cond.code yX6_take cX6_take 2 none ∈ lw_tbl := List.mem_append_right _ (List.mem_append_right _ (List.mem_append_right _ (List.mem_append_left _ (List.mem_of_getElem? (i := 89) rfl))))
set_option maxRecDepth 20000 in
theorem tq_213 : Cond.fieldLink RX6 45 "SeamPicturesModel" "wide" "I" ∈ lw_tbl := List.mem_append_right _ (List.mem_append_right _ (List.mem_append_right _ (List.mem_append_left _ (List.mem_of_getElem? (i := 5) rfl))))
set_option maxRecDepth 20000 in
theorem tq_214 : Cond.fieldLink RX6 49 "SeamPicturesModel" "high" "I" ∈ lw_tbl := List.mem_append_right _ (List.mem_append_right _ (List.mem_append_right _ (List.mem_append_left _ (List.mem_of_getElem? (i := 6) rfl))))
set_option maxRecDepth 20000 in
theorem tq_215 : Cond.methodLink RX6 78 yX6_edge ∈ lw_tbl := List.mem_append_right _ (List.mem_append_right _ (List.mem_append_right _ (List.mem_append_left _ (List.mem_of_getElem? (i := 90) rfl))))
set_option maxRecDepth 20000 in
theorem tq_216 : Cond.instanceMethod yX6_edge ∈ lw_tbl := List.mem_append_right _ (List.mem_append_right _ (List.mem_append_right _ (List.mem_append_left _ (List.mem_of_getElem? (i := 92) rfl))))
set_option maxRecDepth 20000 in
theorem tq_217 : Cond.selects RX6 yX6_edge yX6_edge ∈ lw_tbl := List.mem_append_left _ (List.mem_of_getElem? (i := 18) rfl)
set_option maxRecDepth 20000 in
theorem tq_218 : Cond.code yX6_edge cX6_edge 3 (some .int) ∈ lw_tbl := List.mem_append_right _ (List.mem_append_right _ (List.mem_append_right _ (List.mem_append_left _ (List.mem_of_getElem? (i := 93) rfl))))
set_option maxRecDepth 20000 in
theorem tq_219 : Cond.methodLink RX6 69 yX6_across ∈ lw_tbl := List.mem_append_right _ (List.mem_append_right _ (List.mem_append_right _ (List.mem_append_left _ (List.mem_of_getElem? (i := 94) rfl))))
set_option maxRecDepth 20000 in
theorem tq_220 : Cond.instanceMethod yX6_across ∈ lw_tbl := List.mem_append_right _ (List.mem_append_right _ (List.mem_append_right _ (List.mem_append_left _ (List.mem_of_getElem? (i := 96) rfl))))
set_option maxRecDepth 20000 in
theorem tq_221 : Cond.selects RX6 yX6_across yX6_across ∈ lw_tbl := List.mem_append_left _ (List.mem_of_getElem? (i := 19) rfl)
set_option maxRecDepth 20000 in
theorem tq_222 : Cond.code yX6_across cX6_across 3 (some .int) ∈ lw_tbl := List.mem_append_right _ (List.mem_append_right _ (List.mem_append_right _ (List.mem_append_left _ (List.mem_of_getElem? (i := 97) rfl))))
set_option maxRecDepth 20000 in
theorem tq_223 : Cond.methodLink RX6 59 yX6_left ∈ lw_tbl := List.mem_append_right _ (List.mem_append_right _ (List.mem_append_right _ (List.mem_append_left _ (List.mem_of_getElem? (i := 98) rfl))))
set_option maxRecDepth 20000 in
theorem tq_224 : Cond.instanceMethod yX6_left ∈ lw_tbl := List.mem_append_right _ (List.mem_append_right _ (List.mem_append_right _ (List.mem_append_left _ (List.mem_of_getElem? (i := 100) rfl))))
set_option maxRecDepth 20000 in
theorem tq_225 : Cond.selects RX6 yX6_left yX6_left ∈ lw_tbl := List.mem_append_left _ (List.mem_of_getElem? (i := 20) rfl)
set_option maxRecDepth 20000 in
theorem tq_226 : Cond.code yX6_left cX6_left 3 (some .int) ∈ lw_tbl := List.mem_append_right _ (List.mem_append_right _ (List.mem_append_right _ (List.mem_append_left _ (List.mem_of_getElem? (i := 101) rfl))))
set_option maxRecDepth 20000 in
theorem tq_227 : Cond.methodLink RX6 56 yX6_greyAt ∈ lw_tbl := List.mem_append_right _ (List.mem_append_right _ (List.mem_append_right _ (List.mem_append_left _ (List.mem_of_getElem? (i := 102) rfl))))
set_option maxRecDepth 20000 in
theorem tq_228 : Cond.instanceMethod yX6_greyAt ∈ lw_tbl := List.mem_append_right _ (List.mem_append_right _ (List.mem_append_right _ (List.mem_append_left _ (List.mem_of_getElem? (i := 104) rfl))))
set_option maxRecDepth 20000 in
theorem tq_229 : Cond.selects RX6 yX6_greyAt yX6_greyAt ∈ lw_tbl := List.mem_append_left _ (List.mem_of_getElem? (i := 21) rfl)
set_option maxRecDepth 20000 in
theorem tq_230 : Cond.code yX6_greyAt cX6_greyAt 3 (some .int) ∈ lw_tbl := List.mem_append_right _ (List.mem_append_right _ (List.mem_append_right _ (List.mem_append_left _ (List.mem_of_getElem? (i := 105) rfl))))
set_option maxRecDepth 20000 in
theorem tq_231 : Cond.methodLink RX6 62 yX6_right ∈ lw_tbl := List.mem_append_right _ (List.mem_append_right _ (List.mem_append_right _ (List.mem_append_left _ (List.mem_of_getElem? (i := 106) rfl))))
set_option maxRecDepth 20000 in
theorem tq_232 : Cond.instanceMethod yX6_right ∈ lw_tbl := List.mem_append_right _ (List.mem_append_right _ (List.mem_append_right _ (List.mem_append_left _ (List.mem_of_getElem? (i := 108) rfl))))
set_option maxRecDepth 20000 in
theorem tq_233 : Cond.selects RX6 yX6_right yX6_right ∈ lw_tbl := List.mem_append_left _ (List.mem_of_getElem? (i := 22) rfl)
set_option maxRecDepth 20000 in
theorem tq_234 : Cond.code yX6_right cX6_right 3 (some .int) ∈ lw_tbl := List.mem_append_right _ (List.mem_append_right _ (List.mem_append_right _ (List.mem_append_left _ (List.mem_of_getElem? (i := 109) rfl))))
set_option maxRecDepth 20000 in
theorem tq_235 : Cond.methodLink RX6 65 yX6_size ∈ lw_tbl := List.mem_append_right _ (List.mem_append_right _ (List.mem_append_right _ (List.mem_append_left _ (List.mem_of_getElem? (i := 110) rfl))))
set_option maxRecDepth 20000 in
theorem tq_236 : Cond.static yX6_size ∈ lw_tbl := List.mem_append_right _ (List.mem_append_right _ (List.mem_append_right _ (List.mem_append_left _ (List.mem_of_getElem? (i := 111) rfl))))
set_option maxRecDepth 20000 in
theorem tq_237 : Cond.code yX6_size cX6_size 1 (some .int) ∈ lw_tbl := List.mem_append_right _ (List.mem_append_right _ (List.mem_append_right _ (List.mem_append_left _ (List.mem_of_getElem? (i := 112) rfl))))
set_option maxRecDepth 20000 in
theorem tq_238 : Cond.methodLink RX6 72 yX6_above ∈ lw_tbl := List.mem_append_right _ (List.mem_append_right _ (List.mem_append_right _ (List.mem_append_left _ (List.mem_of_getElem? (i := 113) rfl))))
set_option maxRecDepth 20000 in
theorem tq_239 : Cond.instanceMethod yX6_above ∈ lw_tbl := List.mem_append_right _ (List.mem_append_right _ (List.mem_append_right _ (List.mem_append_left _ (List.mem_of_getElem? (i := 115) rfl))))
set_option maxRecDepth 20000 in
theorem tq_240 : Cond.selects RX6 yX6_above yX6_above ∈ lw_tbl := List.mem_append_left _ (List.mem_of_getElem? (i := 23) rfl)
set_option maxRecDepth 20000 in
theorem tq_241 : Cond.code yX6_above cX6_above 3 (some .int) ∈ lw_tbl := List.mem_append_right _ (List.mem_append_right _ (List.mem_append_right _ (List.mem_append_left _ (List.mem_of_getElem? (i := 116) rfl))))
set_option maxRecDepth 20000 in
theorem tq_242 : Cond.methodLink RX6 75 yX6_below ∈ lw_tbl := List.mem_append_right _ (List.mem_append_right _ (List.mem_append_right _ (List.mem_append_left _ (List.mem_of_getElem? (i := 117) rfl))))
set_option maxRecDepth 20000 in
theorem tq_243 : Cond.instanceMethod yX6_below ∈ lw_tbl := List.mem_append_right _ (List.mem_append_right _ (List.mem_append_right _ (List.mem_append_left _ (List.mem_of_getElem? (i := 119) rfl))))
set_option maxRecDepth 20000 in
theorem tq_244 : Cond.selects RX6 yX6_below yX6_below ∈ lw_tbl := List.mem_append_left _ (List.mem_of_getElem? (i := 24) rfl)
set_option maxRecDepth 20000 in
theorem tq_245 : Cond.code yX6_below cX6_below 3 (some .int) ∈ lw_tbl := List.mem_append_right _ (List.mem_append_right _ (List.mem_append_right _ (List.mem_append_left _ (List.mem_of_getElem? (i := 120) rfl))))
set_option maxRecDepth 20000 in
theorem tq_246 : Cond.methodLink RX6 84 yX6_weight ∈ lw_tbl := List.mem_append_right _ (List.mem_append_right _ (List.mem_append_right _ (List.mem_append_left _ (List.mem_of_getElem? (i := 121) rfl))))
set_option maxRecDepth 20000 in
theorem tq_247 : Cond.instanceMethod yX6_weight ∈ lw_tbl := List.mem_append_right _ (List.mem_append_right _ (List.mem_append_right _ (List.mem_append_left _ (List.mem_of_getElem? (i := 123) rfl))))
set_option maxRecDepth 20000 in
theorem tq_248 : Cond.selects RX6 yX6_weight yX6_weight ∈ lw_tbl := List.mem_append_left _ (List.mem_of_getElem? (i := 25) rfl)
set_option maxRecDepth 20000 in
theorem tq_249 : Cond.code yX6_weight cX6_weight 3 (some .int) ∈ lw_tbl := List.mem_append_right _ (List.mem_append_right _ (List.mem_append_right _ (List.mem_append_left _ (List.mem_of_getElem? (i := 124) rfl))))
set_option maxRecDepth 20000 in
theorem tq_250 : Cond.methodLink RX6 81 yX6_extra ∈ lw_tbl := List.mem_append_right _ (List.mem_append_right _ (List.mem_append_right _ (List.mem_append_left _ (List.mem_of_getElem? (i := 125) rfl))))
set_option maxRecDepth 20000 in
theorem tq_251 : Cond.instanceMethod yX6_extra ∈ lw_tbl := List.mem_append_right _ (List.mem_append_right _ (List.mem_append_right _ (List.mem_append_left _ (List.mem_of_getElem? (i := 127) rfl))))
set_option maxRecDepth 20000 in
theorem tq_252 : Cond.selects RX6 yX6_extra yX6_extra ∈ lw_tbl := List.mem_append_left _ (List.mem_of_getElem? (i := 26) rfl)
set_option maxRecDepth 20000 in
theorem tq_253 : Cond.code yX6_extra cX6_extra 4 (some .int) ∈ lw_tbl := List.mem_append_right _ (List.mem_append_right _ (List.mem_append_right _ (List.mem_append_left _ (List.mem_of_getElem? (i := 128) rfl))))
set_option maxRecDepth 20000 in
theorem tq_254 : Cond.methodLink RL 36 yX5_say ∈ lw_tbl := List.mem_append_right _ (List.mem_append_right _ (List.mem_append_left _ (List.mem_of_getElem? (i := 12) rfl)))
set_option maxRecDepth 20000 in
theorem tq_255 : Cond.instanceMethod yX5_say ∈ lw_tbl := List.mem_append_right _ (List.mem_append_right _ (List.mem_append_left _ (List.mem_of_getElem? (i := 13) rfl)))
set_option maxRecDepth 20000 in
theorem tq_256 : Cond.selects RX5 yX5_say yX5_say ∈ lw_tbl := List.mem_append_right _ (List.mem_append_right _ (List.mem_append_left _ (List.mem_of_getElem? (i := 14) rfl)))
set_option maxRecDepth 20000 in
theorem tq_257 : Cond.code yX5_say cX5_say 2 (some .int) ∈ lw_tbl := List.mem_append_right _ (List.mem_append_right _ (List.mem_append_left _ (List.mem_of_getElem? (i := 15) rfl)))
set_option maxRecDepth 20000 in
theorem tq_258 : Cond.methodLink RX5 97 yX2_isFull ∈ lw_tbl := List.mem_append_right _ (List.mem_append_right _ (List.mem_append_left _ (List.mem_of_getElem? (i := 16) rfl)))
set_option maxRecDepth 20000 in
theorem tq_259 : Cond.instanceMethod yX2_isFull ∈ lw_tbl := List.mem_append_right _ (List.mem_append_right _ (List.mem_append_left _ (List.mem_of_getElem? (i := 17) rfl)))
set_option maxRecDepth 20000 in
theorem tq_260 : Cond.selects RX2 yX2_isFull yX2_isFull ∈ lw_tbl := List.mem_append_right _ (List.mem_append_right _ (List.mem_append_left _ (List.mem_of_getElem? (i := 18) rfl)))
set_option maxRecDepth 20000 in
theorem tq_261 : Cond.code yX2_isFull cX2_isFull 1 (some .boolean) ∈ lw_tbl := List.mem_append_right _ (List.mem_append_right _ (List.mem_append_left _ (List.mem_of_getElem? (i := 19) rfl)))
set_option maxRecDepth 20000 in
theorem tq_262 : Cond.fieldLink RX2 15 "SeamPictures$Pad" "length" "I" ∈ lw_tbl := List.mem_append_right _ (List.mem_append_left _ (List.mem_of_getElem? (i := 79) rfl))
set_option maxRecDepth 20000 in
theorem tq_263 : Cond.methodLink RX5 101 yX2_append ∈ lw_tbl := List.mem_append_right _ (List.mem_append_right _ (List.mem_append_left _ (List.mem_of_getElem? (i := 20) rfl)))
set_option maxRecDepth 20000 in
theorem tq_264 : Cond.instanceMethod yX2_append ∈ lw_tbl := List.mem_append_right _ (List.mem_append_right _ (List.mem_append_left _ (List.mem_of_getElem? (i := 21) rfl)))
set_option maxRecDepth 20000 in
theorem tq_265 : Cond.selects RX2 yX2_append yX2_append ∈ lw_tbl := List.mem_append_right _ (List.mem_append_right _ (List.mem_append_left _ (List.mem_of_getElem? (i := 22) rfl)))
set_option maxRecDepth 20000 in
theorem tq_266 : Cond.code yX2_append cX2_append 2 (some .int) ∈ lw_tbl := List.mem_append_right _ (List.mem_append_right _ (List.mem_append_left _ (List.mem_of_getElem? (i := 23) rfl)))
set_option maxRecDepth 20000 in
theorem tq_267 : Cond.methodLink RL 39 yX6_say ∈ lw_tbl := List.mem_append_right _ (List.mem_append_right _ (List.mem_append_right _ (List.mem_append_left _ (List.mem_of_getElem? (i := 129) rfl))))
set_option maxRecDepth 20000 in
theorem tq_268 : Cond.instanceMethod yX6_say ∈ lw_tbl := List.mem_append_right _ (List.mem_append_right _ (List.mem_append_right _ (List.mem_append_left _ (List.mem_of_getElem? (i := 130) rfl))))
set_option maxRecDepth 20000 in
theorem tq_269 : Cond.selects RX6 yX6_say yX6_say ∈ lw_tbl := List.mem_append_right _ (List.mem_append_right _ (List.mem_append_right _ (List.mem_append_left _ (List.mem_of_getElem? (i := 131) rfl))))
set_option maxRecDepth 20000 in
theorem tq_270 : Cond.code yX6_say cX6_say 2 (some .int) ∈ lw_tbl := List.mem_append_right _ (List.mem_append_right _ (List.mem_append_right _ (List.mem_append_left _ (List.mem_of_getElem? (i := 132) rfl))))
set_option maxRecDepth 20000 in
theorem tq_271 : Cond.fieldLink RX6 127 "SeamPicturesModel" "said" "I" ∈ lw_tbl := List.mem_append_right _ (List.mem_append_right _ (List.mem_append_right _ (List.mem_append_left _ (List.mem_of_getElem? (i := 2) rfl))))
set_option maxRecDepth 20000 in
theorem tq_272 : Cond.methodLink RL 40 yX5_wipe ∈ lw_tbl := List.mem_append_right _ (List.mem_append_right _ (List.mem_append_left _ (List.mem_of_getElem? (i := 24) rfl)))
set_option maxRecDepth 20000 in
theorem tq_273 : Cond.instanceMethod yX5_wipe ∈ lw_tbl := List.mem_append_right _ (List.mem_append_right _ (List.mem_append_left _ (List.mem_of_getElem? (i := 25) rfl)))
set_option maxRecDepth 20000 in
theorem tq_274 : Cond.selects RX5 yX5_wipe yX5_wipe ∈ lw_tbl := List.mem_append_right _ (List.mem_append_right _ (List.mem_append_left _ (List.mem_of_getElem? (i := 26) rfl)))
set_option maxRecDepth 20000 in
theorem tq_275 : Cond.code yX5_wipe cX5_wipe 1 (some .int) ∈ lw_tbl := List.mem_append_right _ (List.mem_append_right _ (List.mem_append_left _ (List.mem_of_getElem? (i := 27) rfl)))
set_option maxRecDepth 20000 in
theorem tq_276 : Cond.methodLink RX5 105 yX2_clear ∈ lw_tbl := List.mem_append_right _ (List.mem_append_right _ (List.mem_append_left _ (List.mem_of_getElem? (i := 28) rfl)))
set_option maxRecDepth 20000 in
theorem tq_277 : Cond.instanceMethod yX2_clear ∈ lw_tbl := List.mem_append_right _ (List.mem_append_right _ (List.mem_append_left _ (List.mem_of_getElem? (i := 29) rfl)))
set_option maxRecDepth 20000 in
theorem tq_278 : Cond.selects RX2 yX2_clear yX2_clear ∈ lw_tbl := List.mem_append_right _ (List.mem_append_right _ (List.mem_append_left _ (List.mem_of_getElem? (i := 30) rfl)))
set_option maxRecDepth 20000 in
theorem tq_279 : Cond.code yX2_clear cX2_clear 2 (some .int) ∈ lw_tbl := List.mem_append_right _ (List.mem_append_right _ (List.mem_append_left _ (List.mem_of_getElem? (i := 31) rfl)))
set_option maxRecDepth 20000 in
theorem tq_280 : Cond.methodLink RL 44 yX6_wipe ∈ lw_tbl := List.mem_append_right _ (List.mem_append_right _ (List.mem_append_right _ (List.mem_append_left _ (List.mem_of_getElem? (i := 133) rfl))))
set_option maxRecDepth 20000 in
theorem tq_281 : Cond.instanceMethod yX6_wipe ∈ lw_tbl := List.mem_append_right _ (List.mem_append_right _ (List.mem_append_right _ (List.mem_append_left _ (List.mem_of_getElem? (i := 134) rfl))))
set_option maxRecDepth 20000 in
theorem tq_282 : Cond.selects RX6 yX6_wipe yX6_wipe ∈ lw_tbl := List.mem_append_right _ (List.mem_append_right _ (List.mem_append_right _ (List.mem_append_left _ (List.mem_of_getElem? (i := 135) rfl))))
set_option maxRecDepth 20000 in
theorem tq_283 : Cond.code yX6_wipe cX6_wipe 2 (some .int) ∈ lw_tbl := List.mem_append_right _ (List.mem_append_right _ (List.mem_append_right _ (List.mem_append_left _ (List.mem_of_getElem? (i := 136) rfl))))
set_option maxRecDepth 20000 in
theorem tq_284 : Cond.methodLink RL 45 yX5_fault ∈ lw_tbl := List.mem_append_right _ (List.mem_append_right _ (List.mem_append_left _ (List.mem_of_getElem? (i := 32) rfl)))
set_option maxRecDepth 20000 in
theorem tq_285 : Cond.instanceMethod yX5_fault ∈ lw_tbl := List.mem_append_right _ (List.mem_append_right _ (List.mem_append_left _ (List.mem_of_getElem? (i := 33) rfl)))
set_option maxRecDepth 20000 in
theorem tq_286 : Cond.selects RX5 yX5_fault yX5_fault ∈ lw_tbl := List.mem_append_right _ (List.mem_append_right _ (List.mem_append_left _ (List.mem_of_getElem? (i := 34) rfl)))
set_option maxRecDepth 20000 in
theorem tq_287 : Cond.code yX5_fault cX5_fault 2 (some .int) ∈ lw_tbl := List.mem_append_right _ (List.mem_append_right _ (List.mem_append_left _ (List.mem_of_getElem? (i := 35) rfl)))
set_option maxRecDepth 20000 in
theorem tq_288 : Cond.methodLink RX5 109 yX2_firstFault ∈ lw_tbl := List.mem_append_right _ (List.mem_append_right _ (List.mem_append_left _ (List.mem_of_getElem? (i := 36) rfl)))
set_option maxRecDepth 20000 in
theorem tq_289 : Cond.instanceMethod yX2_firstFault ∈ lw_tbl := List.mem_append_right _ (List.mem_append_right _ (List.mem_append_left _ (List.mem_of_getElem? (i := 37) rfl)))
set_option maxRecDepth 20000 in
theorem tq_290 : Cond.selects RX2 yX2_firstFault yX2_firstFault ∈ lw_tbl := List.mem_append_right _ (List.mem_append_right _ (List.mem_append_left _ (List.mem_of_getElem? (i := 38) rfl)))
set_option maxRecDepth 20000 in
theorem tq_291 : Cond.code yX2_firstFault cX2_firstFault 6 (some .int) ∈ lw_tbl := List.mem_append_right _ (List.mem_append_right _ (List.mem_append_left _ (List.mem_of_getElem? (i := 39) rfl)))
set_option maxRecDepth 20000 in
theorem tq_292 : Cond.methodLink RX2 19 yX2_canStand ∈ lw_tbl := List.mem_append_right _ (List.mem_append_right _ (List.mem_append_left _ (List.mem_of_getElem? (i := 40) rfl)))
set_option maxRecDepth 20000 in
theorem tq_293 : Cond.static yX2_canStand ∈ lw_tbl := List.mem_append_right _ (List.mem_append_right _ (List.mem_append_left _ (List.mem_of_getElem? (i := 41) rfl)))
set_option maxRecDepth 20000 in
theorem tq_294 : Cond.code yX2_canStand cX2_canStand 3 (some .boolean) ∈ lw_tbl := List.mem_append_right _ (List.mem_append_right _ (List.mem_append_left _ (List.mem_of_getElem? (i := 42) rfl)))
set_option maxRecDepth 20000 in
theorem tq_295 : Cond.methodLink RX2 23 yX2_valueOf ∈ lw_tbl := List.mem_append_right _ (List.mem_append_right _ (List.mem_append_left _ (List.mem_of_getElem? (i := 43) rfl)))
set_option maxRecDepth 20000 in
theorem tq_296 : Cond.static yX2_valueOf ∈ lw_tbl := List.mem_append_right _ (List.mem_append_right _ (List.mem_append_left _ (List.mem_of_getElem? (i := 44) rfl)))
set_option maxRecDepth 20000 in
theorem tq_297 : Cond.code yX2_valueOf cX2_valueOf 2 (some .int) ∈ lw_tbl := List.mem_append_right _ (List.mem_append_right _ (List.mem_append_left _ (List.mem_of_getElem? (i := 45) rfl)))
set_option maxRecDepth 20000 in
theorem tq_298 : Cond.methodLink RL 48 yX6_fault ∈ lw_tbl := List.mem_append_right _ (List.mem_append_right _ (List.mem_append_right _ (List.mem_append_left _ (List.mem_of_getElem? (i := 137) rfl))))
set_option maxRecDepth 20000 in
theorem tq_299 : Cond.instanceMethod yX6_fault ∈ lw_tbl := List.mem_append_right _ (List.mem_append_right _ (List.mem_append_right _ (List.mem_append_left _ (List.mem_of_getElem? (i := 138) rfl))))
set_option maxRecDepth 20000 in
theorem tq_300 : Cond.selects RX6 yX6_fault yX6_fault ∈ lw_tbl := List.mem_append_right _ (List.mem_append_right _ (List.mem_append_right _ (List.mem_append_left _ (List.mem_of_getElem? (i := 139) rfl))))
set_option maxRecDepth 20000 in
theorem tq_301 : Cond.code yX6_fault cX6_fault 2 (some .int) ∈ lw_tbl := List.mem_append_right _ (List.mem_append_right _ (List.mem_append_right _ (List.mem_append_left _ (List.mem_of_getElem? (i := 140) rfl))))
set_option maxRecDepth 20000 in
theorem tq_302 : Cond.methodLink RX6 141 yX6_faultAs ∈ lw_tbl := List.mem_append_right _ (List.mem_append_right _ (List.mem_append_right _ (List.mem_append_left _ (List.mem_of_getElem? (i := 141) rfl))))
set_option maxRecDepth 20000 in
theorem tq_303 : Cond.instanceMethod yX6_faultAs ∈ lw_tbl := List.mem_append_right _ (List.mem_append_right _ (List.mem_append_right _ (List.mem_append_left _ (List.mem_of_getElem? (i := 143) rfl))))
set_option maxRecDepth 20000 in
theorem tq_304 : Cond.selects RX6 yX6_faultAs yX6_faultAs ∈ lw_tbl := List.mem_append_left _ (List.mem_of_getElem? (i := 27) rfl)
set_option maxRecDepth 20000 in
theorem tq_305 : Cond.code yX6_faultAs cX6_faultAs 4 (some .int) ∈ lw_tbl := List.mem_append_right _ (List.mem_append_right _ (List.mem_append_right _ (List.mem_append_left _ (List.mem_of_getElem? (i := 144) rfl))))
set_option maxRecDepth 20000 in
theorem tq_306 : Cond.methodLink RX6 130 yX6_isBetween ∈ lw_tbl := List.mem_append_right _ (List.mem_append_right _ (List.mem_append_right _ (List.mem_append_left _ (List.mem_of_getElem? (i := 145) rfl))))
set_option maxRecDepth 20000 in
theorem tq_307 : Cond.instanceMethod yX6_isBetween ∈ lw_tbl := List.mem_append_right _ (List.mem_append_right _ (List.mem_append_right _ (List.mem_append_left _ (List.mem_of_getElem? (i := 147) rfl))))
set_option maxRecDepth 20000 in
theorem tq_308 : Cond.selects RX6 yX6_isBetween yX6_isBetween ∈ lw_tbl := List.mem_append_left _ (List.mem_of_getElem? (i := 28) rfl)
set_option maxRecDepth 20000 in
theorem tq_309 : Cond.code yX6_isBetween cX6_isBetween 2 (some .boolean) ∈ lw_tbl := List.mem_append_right _ (List.mem_append_right _ (List.mem_append_right _ (List.mem_append_left _ (List.mem_of_getElem? (i := 148) rfl))))
set_option maxRecDepth 20000 in
theorem tq_310 : Cond.methodLink RX6 134 yX6_valueOf ∈ lw_tbl := List.mem_append_right _ (List.mem_append_right _ (List.mem_append_right _ (List.mem_append_left _ (List.mem_of_getElem? (i := 149) rfl))))
set_option maxRecDepth 20000 in
theorem tq_311 : Cond.instanceMethod yX6_valueOf ∈ lw_tbl := List.mem_append_right _ (List.mem_append_right _ (List.mem_append_right _ (List.mem_append_left _ (List.mem_of_getElem? (i := 151) rfl))))
set_option maxRecDepth 20000 in
theorem tq_312 : Cond.selects RX6 yX6_valueOf yX6_valueOf ∈ lw_tbl := List.mem_append_left _ (List.mem_of_getElem? (i := 29) rfl)
set_option maxRecDepth 20000 in
theorem tq_313 : Cond.code yX6_valueOf cX6_valueOf 3 (some .int) ∈ lw_tbl := List.mem_append_right _ (List.mem_append_right _ (List.mem_append_right _ (List.mem_append_left _ (List.mem_of_getElem? (i := 152) rfl))))
set_option maxRecDepth 20000 in
theorem tq_314 : Cond.methodLink RX6 137 yX6_signs ∈ lw_tbl := List.mem_append_right _ (List.mem_append_right _ (List.mem_append_right _ (List.mem_append_left _ (List.mem_of_getElem? (i := 153) rfl))))
set_option maxRecDepth 20000 in
theorem tq_315 : Cond.instanceMethod yX6_signs ∈ lw_tbl := List.mem_append_right _ (List.mem_append_right _ (List.mem_append_right _ (List.mem_append_left _ (List.mem_of_getElem? (i := 155) rfl))))
set_option maxRecDepth 20000 in
theorem tq_316 : Cond.selects RX6 yX6_signs yX6_signs ∈ lw_tbl := List.mem_append_left _ (List.mem_of_getElem? (i := 30) rfl)
set_option maxRecDepth 20000 in
theorem tq_317 : Cond.code yX6_signs cX6_signs 1 (some .int) ∈ lw_tbl := List.mem_append_right _ (List.mem_append_right _ (List.mem_append_right _ (List.mem_append_left _ (List.mem_of_getElem? (i := 156) rfl))))
set_option maxRecDepth 20000 in
theorem tq_318 : Cond.methodLink RL 49 yX5_lay ∈ lw_tbl := List.mem_append_right _ (List.mem_append_right _ (List.mem_append_left _ (List.mem_of_getElem? (i := 46) rfl)))
set_option maxRecDepth 20000 in
theorem tq_319 : Cond.instanceMethod yX5_lay ∈ lw_tbl := List.mem_append_right _ (List.mem_append_right _ (List.mem_append_left _ (List.mem_of_getElem? (i := 47) rfl)))
set_option maxRecDepth 20000 in
theorem tq_320 : Cond.selects RX5 yX5_lay yX5_lay ∈ lw_tbl := List.mem_append_right _ (List.mem_append_right _ (List.mem_append_left _ (List.mem_of_getElem? (i := 48) rfl)))
set_option maxRecDepth 20000 in
theorem tq_321 : Cond.code yX5_lay cX5_lay 3 (some .int) ∈ lw_tbl := List.mem_append_right _ (List.mem_append_right _ (List.mem_append_left _ (List.mem_of_getElem? (i := 49) rfl)))
set_option maxRecDepth 20000 in
theorem tq_322 : Cond.methodLink RX5 112 yX2_layOn ∈ lw_tbl := List.mem_append_right _ (List.mem_append_right _ (List.mem_append_left _ (List.mem_of_getElem? (i := 50) rfl)))
set_option maxRecDepth 20000 in
theorem tq_323 : Cond.instanceMethod yX2_layOn ∈ lw_tbl := List.mem_append_right _ (List.mem_append_right _ (List.mem_append_left _ (List.mem_of_getElem? (i := 51) rfl)))
set_option maxRecDepth 20000 in
theorem tq_324 : Cond.selects RX2 yX2_layOn yX2_layOn ∈ lw_tbl := List.mem_append_right _ (List.mem_append_right _ (List.mem_append_left _ (List.mem_of_getElem? (i := 52) rfl)))
set_option maxRecDepth 20000 in
theorem tq_325 : Cond.code yX2_layOn cX2_layOn 8 (some .int) ∈ lw_tbl := List.mem_append_right _ (List.mem_append_right _ (List.mem_append_left _ (List.mem_of_getElem? (i := 53) rfl)))
set_option maxRecDepth 20000 in
theorem tq_326 : Cond.fieldLink RX2 27 "SeamPictures$Picture" "high" "I" ∈ lw_tbl := List.mem_append_right _ (List.mem_append_left _ (List.mem_of_getElem? (i := 28) rfl))
set_option maxRecDepth 20000 in
theorem tq_327 : Cond.fieldLink RX2 32 "SeamPictures$Picture" "wide" "I" ∈ lw_tbl := List.mem_append_right _ (List.mem_append_left _ (List.mem_of_getElem? (i := 25) rfl))
set_option maxRecDepth 20000 in
theorem tq_328 : Cond.methodLink RX2 35 yX3_changeGrey ∈ lw_tbl := List.mem_append_right _ (List.mem_append_right _ (List.mem_append_left _ (List.mem_of_getElem? (i := 54) rfl)))
set_option maxRecDepth 20000 in
theorem tq_329 : Cond.methodLink RX2 39 yX3_changeMark ∈ lw_tbl := List.mem_append_right _ (List.mem_append_right _ (List.mem_append_left _ (List.mem_of_getElem? (i := 55) rfl)))
set_option maxRecDepth 20000 in
theorem tq_330 : Cond.methodLink RL 52 yX6_lay ∈ lw_tbl := List.mem_append_right _ (List.mem_append_right _ (List.mem_append_right _ (List.mem_append_left _ (List.mem_of_getElem? (i := 157) rfl))))
set_option maxRecDepth 20000 in
theorem tq_331 : Cond.instanceMethod yX6_lay ∈ lw_tbl := List.mem_append_right _ (List.mem_append_right _ (List.mem_append_right _ (List.mem_append_left _ (List.mem_of_getElem? (i := 158) rfl))))
set_option maxRecDepth 20000 in
theorem tq_332 : Cond.selects RX6 yX6_lay yX6_lay ∈ lw_tbl := List.mem_append_right _ (List.mem_append_right _ (List.mem_append_right _ (List.mem_append_left _ (List.mem_of_getElem? (i := 159) rfl))))
set_option maxRecDepth 20000 in
theorem tq_333 : Cond.code yX6_lay cX6_lay 6 (some .int) ∈ lw_tbl := List.mem_append_right _ (List.mem_append_right _ (List.mem_append_right _ (List.mem_append_left _ (List.mem_of_getElem? (i := 160) rfl))))
set_option maxRecDepth 20000 in
theorem tq_334 : Cond.methodLink RL 53 yX5_seam ∈ lw_tbl := List.mem_append_right _ (List.mem_append_right _ (List.mem_append_left _ (List.mem_of_getElem? (i := 56) rfl)))
set_option maxRecDepth 20000 in
theorem tq_335 : Cond.instanceMethod yX5_seam ∈ lw_tbl := List.mem_append_right _ (List.mem_append_right _ (List.mem_append_left _ (List.mem_of_getElem? (i := 57) rfl)))
set_option maxRecDepth 20000 in
theorem tq_336 : Cond.selects RX5 yX5_seam yX5_seam ∈ lw_tbl := List.mem_append_right _ (List.mem_append_right _ (List.mem_append_left _ (List.mem_of_getElem? (i := 58) rfl)))
set_option maxRecDepth 20000 in
theorem tq_337 : Cond.code yX5_seam cX5_seam 3 (some .int) ∈ lw_tbl := List.mem_append_right _ (List.mem_append_right _ (List.mem_append_left _ (List.mem_of_getElem? (i := 59) rfl)))
set_option maxRecDepth 20000 in
theorem tq_338 : Cond.fieldLink RX5 123 "SeamPictures$Seam" "total" "I" ∈ lw_tbl := List.mem_append_right _ (List.mem_append_left _ (List.mem_of_getElem? (i := 56) rfl))
set_option maxRecDepth 20000 in
theorem tq_339 : Cond.fieldLink RX5 126 "SeamPictures$Seam" "places" "[I" ∈ lw_tbl := List.mem_append_right _ (List.mem_append_left _ (List.mem_of_getElem? (i := 58) rfl))
set_option maxRecDepth 20000 in
theorem tq_340 : Cond.methodLink RX5 116 yX3_lines ∈ lw_tbl := List.mem_append_right _ (List.mem_append_right _ (List.mem_append_left _ (List.mem_of_getElem? (i := 60) rfl)))
set_option maxRecDepth 20000 in
theorem tq_341 : Cond.instanceMethod yX3_lines ∈ lw_tbl := List.mem_append_right _ (List.mem_append_right _ (List.mem_append_left _ (List.mem_of_getElem? (i := 61) rfl)))
set_option maxRecDepth 20000 in
theorem tq_342 : Cond.selects RX3 yX3_lines yX3_lines ∈ lw_tbl := List.mem_append_right _ (List.mem_append_right _ (List.mem_append_left _ (List.mem_of_getElem? (i := 62) rfl)))
set_option maxRecDepth 20000 in
theorem tq_343 : Cond.code yX3_lines cX3_lines 2 (some .int) ∈ lw_tbl := List.mem_append_right _ (List.mem_append_right _ (List.mem_append_left _ (List.mem_of_getElem? (i := 63) rfl)))
set_option maxRecDepth 20000 in
theorem tq_344 : Cond.methodLink RX5 119 yX4_findLeast ∈ lw_tbl := List.mem_append_right _ (List.mem_append_right _ (List.mem_append_left _ (List.mem_of_getElem? (i := 64) rfl)))
set_option maxRecDepth 20000 in
theorem tq_345 : Cond.instanceMethod yX4_findLeast ∈ lw_tbl := List.mem_append_right _ (List.mem_append_right _ (List.mem_append_left _ (List.mem_of_getElem? (i := 65) rfl)))
set_option maxRecDepth 20000 in
theorem tq_346 : Cond.selects RX4 yX4_findLeast yX4_findLeast ∈ lw_tbl := List.mem_append_right _ (List.mem_append_right _ (List.mem_append_left _ (List.mem_of_getElem? (i := 66) rfl)))
set_option maxRecDepth 20000 in
theorem tq_347 : Cond.code yX4_findLeast cX4_findLeast 7 none ∈ lw_tbl := List.mem_append_right _ (List.mem_append_right _ (List.mem_append_left _ (List.mem_of_getElem? (i := 67) rfl)))
set_option maxRecDepth 20000 in
theorem tq_348 : Cond.fieldLink RX4 21 "SeamPictures$Seam" "way" "I" ∈ lw_tbl := List.mem_append_right _ (List.mem_append_left _ (List.mem_of_getElem? (i := 51) rfl))
set_option maxRecDepth 20000 in
theorem tq_349 : Cond.fieldLink RX4 41 "SeamPictures$Seam" "total" "I" ∈ lw_tbl := List.mem_append_right _ (List.mem_append_left _ (List.mem_of_getElem? (i := 53) rfl))
set_option maxRecDepth 20000 in
theorem tq_350 : Cond.methodLink RX4 25 yX3_lines ∈ lw_tbl := List.mem_append_right _ (List.mem_append_right _ (List.mem_append_left _ (List.mem_of_getElem? (i := 68) rfl)))
set_option maxRecDepth 20000 in
theorem tq_351 : Cond.methodLink RX4 31 yX3_breadth ∈ lw_tbl := List.mem_append_right _ (List.mem_append_right _ (List.mem_append_left _ (List.mem_of_getElem? (i := 69) rfl)))
set_option maxRecDepth 20000 in
theorem tq_352 : Cond.methodLink RX4 34 yX4_weighDot ∈ lw_tbl := List.mem_append_right _ (List.mem_append_right _ (List.mem_append_left _ (List.mem_of_getElem? (i := 70) rfl)))
set_option maxRecDepth 20000 in
theorem tq_353 : Cond.instanceMethod yX4_weighDot ∈ lw_tbl := List.mem_append_right _ (List.mem_append_right _ (List.mem_append_left _ (List.mem_of_getElem? (i := 72) rfl)))
set_option maxRecDepth 20000 in
theorem tq_354 : Cond.selects RX4 yX4_weighDot yX4_weighDot ∈ lw_tbl := List.mem_append_left _ (List.mem_of_getElem? (i := 2) rfl)
set_option maxRecDepth 20000 in
theorem tq_355 : Cond.code yX4_weighDot cX4_weighDot 6 none ∈ lw_tbl := List.mem_append_right _ (List.mem_append_right _ (List.mem_append_left _ (List.mem_of_getElem? (i := 73) rfl)))
set_option maxRecDepth 20000 in
theorem tq_356 : Cond.methodLink RX4 44 yX3_standingCost ∈ lw_tbl := List.mem_append_right _ (List.mem_append_right _ (List.mem_append_left _ (List.mem_of_getElem? (i := 74) rfl)))
set_option maxRecDepth 20000 in
theorem tq_357 : Cond.instanceMethod yX3_standingCost ∈ lw_tbl := List.mem_append_right _ (List.mem_append_right _ (List.mem_append_left _ (List.mem_of_getElem? (i := 75) rfl)))
set_option maxRecDepth 20000 in
theorem tq_358 : Cond.selects RX3 yX3_standingCost yX3_standingCost ∈ lw_tbl := List.mem_append_right _ (List.mem_append_right _ (List.mem_append_left _ (List.mem_of_getElem? (i := 76) rfl)))
set_option maxRecDepth 20000 in
theorem tq_359 : Cond.code yX3_standingCost cX3_standingCost 5 (some .int) ∈ lw_tbl := List.mem_append_right _ (List.mem_append_right _ (List.mem_append_left _ (List.mem_of_getElem? (i := 77) rfl)))
set_option maxRecDepth 20000 in
theorem tq_360 : Cond.fieldLink RX3 25 "SeamPictures$Picture" "law" "I" ∈ lw_tbl := List.mem_append_right _ (List.mem_append_left _ (List.mem_of_getElem? (i := 29) rfl))
set_option maxRecDepth 20000 in
theorem tq_361 : Cond.methodLink RX4 48 yX4_goOnFrom ∈ lw_tbl := List.mem_append_right _ (List.mem_append_right _ (List.mem_append_left _ (List.mem_of_getElem? (i := 78) rfl)))
set_option maxRecDepth 20000 in
theorem tq_362 : Cond.instanceMethod yX4_goOnFrom ∈ lw_tbl := List.mem_append_right _ (List.mem_append_right _ (List.mem_append_left _ (List.mem_of_getElem? (i := 80) rfl)))
set_option maxRecDepth 20000 in
theorem tq_363 : Cond.selects RX4 yX4_goOnFrom yX4_goOnFrom ∈ lw_tbl := List.mem_append_left _ (List.mem_of_getElem? (i := 3) rfl)
set_option maxRecDepth 20000 in
theorem tq_364 : Cond.code yX4_goOnFrom cX4_goOnFrom 10 none ∈ lw_tbl := List.mem_append_right _ (List.mem_append_right _ (List.mem_append_left _ (List.mem_of_getElem? (i := 81) rfl)))
set_option maxRecDepth 20000 in
theorem tq_365 : Cond.methodLink RX4 52 Lib.Math.max.name ∈ lw_tbl := List.mem_append_right _ (List.mem_append_right _ (List.mem_append_left _ (List.mem_of_getElem? (i := 82) rfl)))
set_option maxRecDepth 20000 in
theorem tq_366 : Cond.methodLink RX4 58 Lib.Math.min.name ∈ lw_tbl := List.mem_append_right _ (List.mem_append_right _ (List.mem_append_left _ (List.mem_of_getElem? (i := 83) rfl)))
set_option maxRecDepth 20000 in
theorem tq_367 : Cond.methodLink RX4 61 yX3_turningCost ∈ lw_tbl := List.mem_append_right _ (List.mem_append_right _ (List.mem_append_left _ (List.mem_of_getElem? (i := 84) rfl)))
set_option maxRecDepth 20000 in
theorem tq_368 : Cond.instanceMethod yX3_turningCost ∈ lw_tbl := List.mem_append_right _ (List.mem_append_right _ (List.mem_append_left _ (List.mem_of_getElem? (i := 85) rfl)))
set_option maxRecDepth 20000 in
theorem tq_369 : Cond.selects RX3 yX3_turningCost yX3_turningCost ∈ lw_tbl := List.mem_append_right _ (List.mem_append_right _ (List.mem_append_left _ (List.mem_of_getElem? (i := 86) rfl)))
set_option maxRecDepth 20000 in
theorem tq_370 : Cond.code yX3_turningCost cX3_turningCost 7 (some .int) ∈ lw_tbl := List.mem_append_right _ (List.mem_append_right _ (List.mem_append_left _ (List.mem_of_getElem? (i := 87) rfl)))
set_option maxRecDepth 20000 in
theorem tq_371 : Cond.methodLink RX4 38 yX4_leastStart ∈ lw_tbl := List.mem_append_right _ (List.mem_append_right _ (List.mem_append_left _ (List.mem_of_getElem? (i := 88) rfl)))
set_option maxRecDepth 20000 in
theorem tq_372 : Cond.instanceMethod yX4_leastStart ∈ lw_tbl := List.mem_append_right _ (List.mem_append_right _ (List.mem_append_left _ (List.mem_of_getElem? (i := 90) rfl)))
set_option maxRecDepth 20000 in
theorem tq_373 : Cond.selects RX4 yX4_leastStart yX4_leastStart ∈ lw_tbl := List.mem_append_left _ (List.mem_of_getElem? (i := 4) rfl)
set_option maxRecDepth 20000 in
theorem tq_374 : Cond.code yX4_leastStart cX4_leastStart 4 (some .int) ∈ lw_tbl := List.mem_append_right _ (List.mem_append_right _ (List.mem_append_left _ (List.mem_of_getElem? (i := 91) rfl)))
set_option maxRecDepth 20000 in
theorem tq_375 : Cond.methodLink RL 56 yX6_seam ∈ lw_tbl := List.mem_append_right _ (List.mem_append_right _ (List.mem_append_right _ (List.mem_append_left _ (List.mem_of_getElem? (i := 161) rfl))))
set_option maxRecDepth 20000 in
theorem tq_376 : Cond.instanceMethod yX6_seam ∈ lw_tbl := List.mem_append_right _ (List.mem_append_right _ (List.mem_append_right _ (List.mem_append_left _ (List.mem_of_getElem? (i := 162) rfl))))
set_option maxRecDepth 20000 in
theorem tq_377 : Cond.selects RX6 yX6_seam yX6_seam ∈ lw_tbl := List.mem_append_right _ (List.mem_append_right _ (List.mem_append_right _ (List.mem_append_left _ (List.mem_of_getElem? (i := 163) rfl))))
set_option maxRecDepth 20000 in
theorem tq_378 : Cond.code yX6_seam cX6_seam 3 (some .int) ∈ lw_tbl := List.mem_append_right _ (List.mem_append_right _ (List.mem_append_right _ (List.mem_append_left _ (List.mem_of_getElem? (i := 164) rfl))))
set_option maxRecDepth 20000 in
theorem tq_379 : Cond.fieldLink RX6 94 "SeamPicturesModel" "seamCost" "I" ∈ lw_tbl := List.mem_append_right _ (List.mem_append_right _ (List.mem_append_right _ (List.mem_append_left _ (List.mem_of_getElem? (i := 9) rfl))))
set_option maxRecDepth 20000 in
theorem tq_380 : Cond.methodLink RX6 144 yX6_isWay ∈ lw_tbl := List.mem_append_right _ (List.mem_append_right _ (List.mem_append_right _ (List.mem_append_left _ (List.mem_of_getElem? (i := 165) rfl))))
set_option maxRecDepth 20000 in
theorem tq_381 : Cond.static yX6_isWay ∈ lw_tbl := List.mem_append_right _ (List.mem_append_right _ (List.mem_append_right _ (List.mem_append_left _ (List.mem_of_getElem? (i := 166) rfl))))
set_option maxRecDepth 20000 in
theorem tq_382 : Cond.code yX6_isWay cX6_isWay 1 (some .boolean) ∈ lw_tbl := List.mem_append_right _ (List.mem_append_right _ (List.mem_append_right _ (List.mem_append_left _ (List.mem_of_getElem? (i := 167) rfl))))
set_option maxRecDepth 20000 in
theorem tq_383 : Cond.methodLink RX6 110 yX6_layWay ∈ lw_tbl := List.mem_append_right _ (List.mem_append_right _ (List.mem_append_right _ (List.mem_append_left _ (List.mem_of_getElem? (i := 168) rfl))))
set_option maxRecDepth 20000 in
theorem tq_384 : Cond.instanceMethod yX6_layWay ∈ lw_tbl := List.mem_append_right _ (List.mem_append_right _ (List.mem_append_right _ (List.mem_append_left _ (List.mem_of_getElem? (i := 170) rfl))))
set_option maxRecDepth 20000 in
theorem tq_385 : Cond.selects RX6 yX6_layWay yX6_layWay ∈ lw_tbl := List.mem_append_left _ (List.mem_of_getElem? (i := 31) rfl)
set_option maxRecDepth 20000 in
theorem tq_386 : Cond.code yX6_layWay cX6_layWay 2 none ∈ lw_tbl := List.mem_append_right _ (List.mem_append_right _ (List.mem_append_right _ (List.mem_append_left _ (List.mem_of_getElem? (i := 171) rfl))))
set_option maxRecDepth 20000 in
theorem tq_387 : Cond.methodLink RX6 97 yX6_turn ∈ lw_tbl := List.mem_append_right _ (List.mem_append_right _ (List.mem_append_right _ (List.mem_append_left _ (List.mem_of_getElem? (i := 172) rfl))))
set_option maxRecDepth 20000 in
theorem tq_388 : Cond.instanceMethod yX6_turn ∈ lw_tbl := List.mem_append_right _ (List.mem_append_right _ (List.mem_append_right _ (List.mem_append_left _ (List.mem_of_getElem? (i := 174) rfl))))
set_option maxRecDepth 20000 in
theorem tq_389 : Cond.selects RX6 yX6_turn yX6_turn ∈ lw_tbl := List.mem_append_left _ (List.mem_of_getElem? (i := 32) rfl)
set_option maxRecDepth 20000 in
theorem tq_390 : Cond.code yX6_turn cX6_turn 5 none ∈ lw_tbl := List.mem_append_right _ (List.mem_append_right _ (List.mem_append_right _ (List.mem_append_left _ (List.mem_of_getElem? (i := 175) rfl))))
set_option maxRecDepth 20000 in
theorem tq_391 : Cond.methodLink RX6 100 yX6_laySeam ∈ lw_tbl := List.mem_append_right _ (List.mem_append_right _ (List.mem_append_right _ (List.mem_append_left _ (List.mem_of_getElem? (i := 176) rfl))))
set_option maxRecDepth 20000 in
theorem tq_392 : Cond.instanceMethod yX6_laySeam ∈ lw_tbl := List.mem_append_right _ (List.mem_append_right _ (List.mem_append_right _ (List.mem_append_left _ (List.mem_of_getElem? (i := 178) rfl))))
set_option maxRecDepth 20000 in
theorem tq_393 : Cond.selects RX6 yX6_laySeam yX6_laySeam ∈ lw_tbl := List.mem_append_left _ (List.mem_of_getElem? (i := 33) rfl)
set_option maxRecDepth 20000 in
theorem tq_394 : Cond.code yX6_laySeam cX6_laySeam 4 none ∈ lw_tbl := List.mem_append_right _ (List.mem_append_right _ (List.mem_append_right _ (List.mem_append_left _ (List.mem_of_getElem? (i := 179) rfl))))
set_option maxRecDepth 20000 in
theorem tq_395 : Cond.methodLink RX6 91 yX6_nextFrom ∈ lw_tbl := List.mem_append_right _ (List.mem_append_right _ (List.mem_append_right _ (List.mem_append_left _ (List.mem_of_getElem? (i := 180) rfl))))
set_option maxRecDepth 20000 in
theorem tq_396 : Cond.instanceMethod yX6_nextFrom ∈ lw_tbl := List.mem_append_right _ (List.mem_append_right _ (List.mem_append_right _ (List.mem_append_left _ (List.mem_of_getElem? (i := 182) rfl))))
set_option maxRecDepth 20000 in
theorem tq_397 : Cond.selects RX6 yX6_nextFrom yX6_nextFrom ∈ lw_tbl := List.mem_append_left _ (List.mem_of_getElem? (i := 34) rfl)
set_option maxRecDepth 20000 in
theorem tq_398 : Cond.code yX6_nextFrom cX6_nextFrom 7 (some .int) ∈ lw_tbl := List.mem_append_right _ (List.mem_append_right _ (List.mem_append_right _ (List.mem_append_left _ (List.mem_of_getElem? (i := 183) rfl))))
set_option maxRecDepth 20000 in
theorem tq_399 : Cond.methodLink RX6 87 yX6_costOf ∈ lw_tbl := List.mem_append_right _ (List.mem_append_right _ (List.mem_append_right _ (List.mem_append_left _ (List.mem_of_getElem? (i := 184) rfl))))
set_option maxRecDepth 20000 in
theorem tq_400 : Cond.instanceMethod yX6_costOf ∈ lw_tbl := List.mem_append_right _ (List.mem_append_right _ (List.mem_append_right _ (List.mem_append_left _ (List.mem_of_getElem? (i := 186) rfl))))
set_option maxRecDepth 20000 in
theorem tq_401 : Cond.selects RX6 yX6_costOf yX6_costOf ∈ lw_tbl := List.mem_append_left _ (List.mem_of_getElem? (i := 35) rfl)
set_option maxRecDepth 20000 in
theorem tq_402 : Cond.code yX6_costOf cX6_costOf 5 (some .int) ∈ lw_tbl := List.mem_append_right _ (List.mem_append_right _ (List.mem_append_right _ (List.mem_append_left _ (List.mem_of_getElem? (i := 187) rfl))))
set_option maxRecDepth 20000 in
theorem tq_403 : Cond.methodLink RL 57 yX5_cost ∈ lw_tbl := List.mem_append_right _ (List.mem_append_right _ (List.mem_append_left _ (List.mem_of_getElem? (i := 92) rfl)))
set_option maxRecDepth 20000 in
theorem tq_404 : Cond.instanceMethod yX5_cost ∈ lw_tbl := List.mem_append_right _ (List.mem_append_right _ (List.mem_append_left _ (List.mem_of_getElem? (i := 93) rfl)))
set_option maxRecDepth 20000 in
theorem tq_405 : Cond.selects RX5 yX5_cost yX5_cost ∈ lw_tbl := List.mem_append_right _ (List.mem_append_right _ (List.mem_append_left _ (List.mem_of_getElem? (i := 94) rfl)))
set_option maxRecDepth 20000 in
theorem tq_406 : Cond.code yX5_cost cX5_cost 3 (some .int) ∈ lw_tbl := List.mem_append_right _ (List.mem_append_right _ (List.mem_append_left _ (List.mem_of_getElem? (i := 95) rfl)))
set_option maxRecDepth 20000 in
theorem tq_407 : Cond.methodLink RX5 130 yX4_readNumber ∈ lw_tbl := List.mem_append_right _ (List.mem_append_right _ (List.mem_append_left _ (List.mem_of_getElem? (i := 96) rfl)))
set_option maxRecDepth 20000 in
theorem tq_408 : Cond.instanceMethod yX4_readNumber ∈ lw_tbl := List.mem_append_right _ (List.mem_append_right _ (List.mem_append_left _ (List.mem_of_getElem? (i := 97) rfl)))
set_option maxRecDepth 20000 in
theorem tq_409 : Cond.selects RX4 yX4_readNumber yX4_readNumber ∈ lw_tbl := List.mem_append_right _ (List.mem_append_right _ (List.mem_append_left _ (List.mem_of_getElem? (i := 98) rfl)))
set_option maxRecDepth 20000 in
theorem tq_410 : Cond.code yX4_readNumber cX4_readNumber 7 (some .boolean) ∈ lw_tbl := List.mem_append_right _ (List.mem_append_right _ (List.mem_append_left _ (List.mem_of_getElem? (i := 99) rfl)))
set_option maxRecDepth 20000 in
theorem tq_411 : Cond.methodLink RX4 65 yX4_hangsTogether ∈ lw_tbl := List.mem_append_right _ (List.mem_append_right _ (List.mem_append_left _ (List.mem_of_getElem? (i := 100) rfl)))
set_option maxRecDepth 20000 in
theorem tq_412 : Cond.instanceMethod yX4_hangsTogether ∈ lw_tbl := List.mem_append_right _ (List.mem_append_right _ (List.mem_append_left _ (List.mem_of_getElem? (i := 102) rfl)))
set_option maxRecDepth 20000 in
theorem tq_413 : Cond.selects RX4 yX4_hangsTogether yX4_hangsTogether ∈ lw_tbl := List.mem_append_left _ (List.mem_of_getElem? (i := 5) rfl)
set_option maxRecDepth 20000 in
theorem tq_414 : Cond.code yX4_hangsTogether cX4_hangsTogether 4 (some .boolean) ∈ lw_tbl := List.mem_append_right _ (List.mem_append_right _ (List.mem_append_left _ (List.mem_of_getElem? (i := 103) rfl)))
set_option maxRecDepth 20000 in
theorem tq_415 : Cond.methodLink RX4 73 Lib.Math.abs.name ∈ lw_tbl := List.mem_append_right _ (List.mem_append_right _ (List.mem_append_left _ (List.mem_of_getElem? (i := 104) rfl)))
set_option maxRecDepth 20000 in
theorem tq_416 : Cond.methodLink RX4 69 yX4_sumOfCosts ∈ lw_tbl := List.mem_append_right _ (List.mem_append_right _ (List.mem_append_left _ (List.mem_of_getElem? (i := 105) rfl)))
set_option maxRecDepth 20000 in
theorem tq_417 : Cond.instanceMethod yX4_sumOfCosts ∈ lw_tbl := List.mem_append_right _ (List.mem_append_right _ (List.mem_append_left _ (List.mem_of_getElem? (i := 107) rfl)))
set_option maxRecDepth 20000 in
theorem tq_418 : Cond.selects RX4 yX4_sumOfCosts yX4_sumOfCosts ∈ lw_tbl := List.mem_append_left _ (List.mem_of_getElem? (i := 6) rfl)
set_option maxRecDepth 20000 in
theorem tq_419 : Cond.code yX4_sumOfCosts cX4_sumOfCosts 5 (some .int) ∈ lw_tbl := List.mem_append_right _ (List.mem_append_right _ (List.mem_append_left _ (List.mem_of_getElem? (i := 108) rfl)))
set_option maxRecDepth 20000 in
theorem tq_420 : Cond.methodLink RL 60 yX6_cost ∈ lw_tbl := List.mem_append_right _ (List.mem_append_right _ (List.mem_append_right _ (List.mem_append_left _ (List.mem_of_getElem? (i := 188) rfl))))
set_option maxRecDepth 20000 in
theorem tq_421 : Cond.instanceMethod yX6_cost ∈ lw_tbl := List.mem_append_right _ (List.mem_append_right _ (List.mem_append_right _ (List.mem_append_left _ (List.mem_of_getElem? (i := 189) rfl))))
set_option maxRecDepth 20000 in
theorem tq_422 : Cond.selects RX6 yX6_cost yX6_cost ∈ lw_tbl := List.mem_append_right _ (List.mem_append_right _ (List.mem_append_right _ (List.mem_append_left _ (List.mem_of_getElem? (i := 190) rfl))))
set_option maxRecDepth 20000 in
theorem tq_423 : Cond.code yX6_cost cX6_cost 5 (some .int) ∈ lw_tbl := List.mem_append_right _ (List.mem_append_right _ (List.mem_append_right _ (List.mem_append_left _ (List.mem_of_getElem? (i := 191) rfl))))
set_option maxRecDepth 20000 in
theorem tq_424 : Cond.methodLink RX6 147 yX6_layNumber ∈ lw_tbl := List.mem_append_right _ (List.mem_append_right _ (List.mem_append_right _ (List.mem_append_left _ (List.mem_of_getElem? (i := 192) rfl))))
set_option maxRecDepth 20000 in
theorem tq_425 : Cond.instanceMethod yX6_layNumber ∈ lw_tbl := List.mem_append_right _ (List.mem_append_right _ (List.mem_append_right _ (List.mem_append_left _ (List.mem_of_getElem? (i := 194) rfl))))
set_option maxRecDepth 20000 in
theorem tq_426 : Cond.selects RX6 yX6_layNumber yX6_layNumber ∈ lw_tbl := List.mem_append_left _ (List.mem_of_getElem? (i := 36) rfl)
set_option maxRecDepth 20000 in
theorem tq_427 : Cond.code yX6_layNumber cX6_layNumber 5 (some .boolean) ∈ lw_tbl := List.mem_append_right _ (List.mem_append_right _ (List.mem_append_right _ (List.mem_append_left _ (List.mem_of_getElem? (i := 195) rfl))))
set_option maxRecDepth 20000 in
theorem tq_428 : Cond.methodLink RL 61 yX5_cut ∈ lw_tbl := List.mem_append_right _ (List.mem_append_right _ (List.mem_append_left _ (List.mem_of_getElem? (i := 109) rfl)))
set_option maxRecDepth 20000 in
theorem tq_429 : Cond.instanceMethod yX5_cut ∈ lw_tbl := List.mem_append_right _ (List.mem_append_right _ (List.mem_append_left _ (List.mem_of_getElem? (i := 110) rfl)))
set_option maxRecDepth 20000 in
theorem tq_430 : Cond.selects RX5 yX5_cut yX5_cut ∈ lw_tbl := List.mem_append_right _ (List.mem_append_right _ (List.mem_append_left _ (List.mem_of_getElem? (i := 111) rfl)))
set_option maxRecDepth 20000 in
theorem tq_431 : Cond.code yX5_cut cX5_cut 2 (some .int) ∈ lw_tbl := List.mem_append_right _ (List.mem_append_right _ (List.mem_append_left _ (List.mem_of_getElem? (i := 112) rfl)))
set_option maxRecDepth 20000 in
theorem tq_432 : Cond.methodLink RX5 134 yX3_breadth ∈ lw_tbl := List.mem_append_right _ (List.mem_append_right _ (List.mem_append_left _ (List.mem_of_getElem? (i := 113) rfl)))
set_option maxRecDepth 20000 in
theorem tq_433 : Cond.methodLink RX5 137 yX3_takeOut ∈ lw_tbl := List.mem_append_right _ (List.mem_append_right _ (List.mem_append_left _ (List.mem_of_getElem? (i := 114) rfl)))
set_option maxRecDepth 20000 in
theorem tq_434 : Cond.instanceMethod yX3_takeOut ∈ lw_tbl := List.mem_append_right _ (List.mem_append_right _ (List.mem_append_left _ (List.mem_of_getElem? (i := 115) rfl)))
set_option maxRecDepth 20000 in
theorem tq_435 : Cond.selects RX3 yX3_takeOut yX3_takeOut ∈ lw_tbl := List.mem_append_right _ (List.mem_append_right _ (List.mem_append_left _ (List.mem_of_getElem? (i := 116) rfl)))
set_option maxRecDepth 20000 in
theorem tq_436 : Cond.code yX3_takeOut cX3_takeOut 5 none ∈ lw_tbl := List.mem_append_right _ (List.mem_append_right _ (List.mem_append_left _ (List.mem_of_getElem? (i := 117) rfl)))
set_option maxRecDepth 20000 in
theorem tq_437 : Cond.fieldLink RX3 66 "SeamPictures$Seam" "way" "I" ∈ lw_tbl := List.mem_append_right _ (List.mem_append_left _ (List.mem_of_getElem? (i := 52) rfl))
set_option maxRecDepth 20000 in
theorem tq_438 : Cond.fieldLink RX3 74 "SeamPictures$Seam" "places" "[I" ∈ lw_tbl := List.mem_append_right _ (List.mem_append_left _ (List.mem_of_getElem? (i := 59) rfl))
set_option maxRecDepth 20000 in
theorem tq_439 : Cond.methodLink RX3 71 yX3_lines ∈ lw_tbl := List.mem_append_right _ (List.mem_append_right _ (List.mem_append_left _ (List.mem_of_getElem? (i := 118) rfl)))
set_option maxRecDepth 20000 in
theorem tq_440 : Cond.methodLink RX3 77 yX3_moveDot ∈ lw_tbl := List.mem_append_right _ (List.mem_append_right _ (List.mem_append_left _ (List.mem_of_getElem? (i := 119) rfl)))
set_option maxRecDepth 20000 in
theorem tq_441 : Cond.instanceMethod yX3_moveDot ∈ lw_tbl := List.mem_append_right _ (List.mem_append_right _ (List.mem_append_left _ (List.mem_of_getElem? (i := 121) rfl)))
set_option maxRecDepth 20000 in
theorem tq_442 : Cond.selects RX3 yX3_moveDot yX3_moveDot ∈ lw_tbl := List.mem_append_left _ (List.mem_of_getElem? (i := 7) rfl)
set_option maxRecDepth 20000 in
theorem tq_443 : Cond.code yX3_moveDot cX3_moveDot 7 none ∈ lw_tbl := List.mem_append_right _ (List.mem_append_right _ (List.mem_append_left _ (List.mem_of_getElem? (i := 122) rfl)))
set_option maxRecDepth 20000 in
theorem tq_444 : Cond.methodLink RX3 81 yX3_broaden ∈ lw_tbl := List.mem_append_right _ (List.mem_append_right _ (List.mem_append_left _ (List.mem_of_getElem? (i := 123) rfl)))
set_option maxRecDepth 20000 in
theorem tq_445 : Cond.instanceMethod yX3_broaden ∈ lw_tbl := List.mem_append_right _ (List.mem_append_right _ (List.mem_append_left _ (List.mem_of_getElem? (i := 125) rfl)))
set_option maxRecDepth 20000 in
theorem tq_446 : Cond.selects RX3 yX3_broaden yX3_broaden ∈ lw_tbl := List.mem_append_left _ (List.mem_of_getElem? (i := 8) rfl)
set_option maxRecDepth 20000 in
theorem tq_447 : Cond.code yX3_broaden cX3_broaden 3 none ∈ lw_tbl := List.mem_append_right _ (List.mem_append_right _ (List.mem_append_left _ (List.mem_of_getElem? (i := 126) rfl)))
set_option maxRecDepth 20000 in
theorem tq_448 : Cond.methodLink RL 64 yX6_cut ∈ lw_tbl := List.mem_append_right _ (List.mem_append_right _ (List.mem_append_right _ (List.mem_append_left _ (List.mem_of_getElem? (i := 196) rfl))))
set_option maxRecDepth 20000 in
theorem tq_449 : Cond.instanceMethod yX6_cut ∈ lw_tbl := List.mem_append_right _ (List.mem_append_right _ (List.mem_append_right _ (List.mem_append_left _ (List.mem_of_getElem? (i := 197) rfl))))
set_option maxRecDepth 20000 in
theorem tq_450 : Cond.selects RX6 yX6_cut yX6_cut ∈ lw_tbl := List.mem_append_right _ (List.mem_append_right _ (List.mem_append_right _ (List.mem_append_left _ (List.mem_of_getElem? (i := 198) rfl))))
set_option maxRecDepth 20000 in
theorem tq_451 : Cond.code yX6_cut cX6_cut 3 (some .int) ∈ lw_tbl := List.mem_append_right _ (List.mem_append_right _ (List.mem_append_right _ (List.mem_append_left _ (List.mem_of_getElem? (i := 199) rfl))))
set_option maxRecDepth 20000 in
theorem tq_452 : Cond.methodLink RX6 150 yX6_cutWay ∈ lw_tbl := List.mem_append_right _ (List.mem_append_right _ (List.mem_append_right _ (List.mem_append_left _ (List.mem_of_getElem? (i := 200) rfl))))
set_option maxRecDepth 20000 in
theorem tq_453 : Cond.instanceMethod yX6_cutWay ∈ lw_tbl := List.mem_append_right _ (List.mem_append_right _ (List.mem_append_right _ (List.mem_append_left _ (List.mem_of_getElem? (i := 202) rfl))))
set_option maxRecDepth 20000 in
theorem tq_454 : Cond.selects RX6 yX6_cutWay yX6_cutWay ∈ lw_tbl := List.mem_append_left _ (List.mem_of_getElem? (i := 37) rfl)
set_option maxRecDepth 20000 in
theorem tq_455 : Cond.code yX6_cutWay cX6_cutWay 2 (some .int) ∈ lw_tbl := List.mem_append_right _ (List.mem_append_right _ (List.mem_append_right _ (List.mem_append_left _ (List.mem_of_getElem? (i := 203) rfl))))
set_option maxRecDepth 20000 in
theorem tq_456 : Cond.methodLink RX6 114 yX6_cutSeam ∈ lw_tbl := List.mem_append_right _ (List.mem_append_right _ (List.mem_append_right _ (List.mem_append_left _ (List.mem_of_getElem? (i := 204) rfl))))
set_option maxRecDepth 20000 in
theorem tq_457 : Cond.instanceMethod yX6_cutSeam ∈ lw_tbl := List.mem_append_right _ (List.mem_append_right _ (List.mem_append_right _ (List.mem_append_left _ (List.mem_of_getElem? (i := 206) rfl))))
set_option maxRecDepth 20000 in
theorem tq_458 : Cond.selects RX6 yX6_cutSeam yX6_cutSeam ∈ lw_tbl := List.mem_append_left _ (List.mem_of_getElem? (i := 38) rfl)
set_option maxRecDepth 20000 in
theorem tq_459 : Cond.code yX6_cutSeam cX6_cutSeam 3 none ∈ lw_tbl := List.mem_append_right _ (List.mem_append_right _ (List.mem_append_right _ (List.mem_append_left _ (List.mem_of_getElem? (i := 207) rfl))))
set_option maxRecDepth 20000 in
theorem tq_460 : Cond.fieldLink RX6 103 "SeamPicturesModel" "keptCut" "I" ∈ lw_tbl := List.mem_append_right _ (List.mem_append_right _ (List.mem_append_right _ (List.mem_append_left _ (List.mem_of_getElem? (i := 10) rfl))))
set_option maxRecDepth 20000 in
theorem tq_461 : Cond.methodLink RX6 106 yX6_move ∈ lw_tbl := List.mem_append_right _ (List.mem_append_right _ (List.mem_append_right _ (List.mem_append_left _ (List.mem_of_getElem? (i := 208) rfl))))
set_option maxRecDepth 20000 in
theorem tq_462 : Cond.instanceMethod yX6_move ∈ lw_tbl := List.mem_append_right _ (List.mem_append_right _ (List.mem_append_right _ (List.mem_append_left _ (List.mem_of_getElem? (i := 210) rfl))))
set_option maxRecDepth 20000 in
theorem tq_463 : Cond.selects RX6 yX6_move yX6_move ∈ lw_tbl := List.mem_append_left _ (List.mem_of_getElem? (i := 39) rfl)
set_option maxRecDepth 20000 in
theorem tq_464 : Cond.code yX6_move cX6_move 4 none ∈ lw_tbl := List.mem_append_right _ (List.mem_append_right _ (List.mem_append_right _ (List.mem_append_left _ (List.mem_of_getElem? (i := 211) rfl))))
set_option maxRecDepth 20000 in
theorem tq_465 : Cond.methodLink RX6 117 yX6_leaveWay ∈ lw_tbl := List.mem_append_right _ (List.mem_append_right _ (List.mem_append_right _ (List.mem_append_left _ (List.mem_of_getElem? (i := 212) rfl))))
set_option maxRecDepth 20000 in
theorem tq_466 : Cond.instanceMethod yX6_leaveWay ∈ lw_tbl := List.mem_append_right _ (List.mem_append_right _ (List.mem_append_right _ (List.mem_append_left _ (List.mem_of_getElem? (i := 214) rfl))))
set_option maxRecDepth 20000 in
theorem tq_467 : Cond.selects RX6 yX6_leaveWay yX6_leaveWay ∈ lw_tbl := List.mem_append_left _ (List.mem_of_getElem? (i := 40) rfl)
set_option maxRecDepth 20000 in
theorem tq_468 : Cond.code yX6_leaveWay cX6_leaveWay 2 none ∈ lw_tbl := List.mem_append_right _ (List.mem_append_right _ (List.mem_append_right _ (List.mem_append_left _ (List.mem_of_getElem? (i := 215) rfl))))
set_option maxRecDepth 20000 in
theorem tq_469 : Cond.methodLink RX6 153 yX6_give ∈ lw_tbl := List.mem_append_right _ (List.mem_append_right _ (List.mem_append_right _ (List.mem_append_left _ (List.mem_of_getElem? (i := 216) rfl))))
set_option maxRecDepth 20000 in
theorem tq_470 : Cond.instanceMethod yX6_give ∈ lw_tbl := List.mem_append_right _ (List.mem_append_right _ (List.mem_append_right _ (List.mem_append_left _ (List.mem_of_getElem? (i := 218) rfl))))
set_option maxRecDepth 20000 in
theorem tq_471 : Cond.selects RX6 yX6_give yX6_give ∈ lw_tbl := List.mem_append_left _ (List.mem_of_getElem? (i := 41) rfl)
set_option maxRecDepth 20000 in
theorem tq_472 : Cond.code yX6_give cX6_give 3 none ∈ lw_tbl := List.mem_append_right _ (List.mem_append_right _ (List.mem_append_right _ (List.mem_append_left _ (List.mem_of_getElem? (i := 219) rfl))))
set_option maxRecDepth 20000 in
theorem tq_473 : Cond.methodLink RL 65 yX5_add ∈ lw_tbl := List.mem_append_right _ (List.mem_append_right _ (List.mem_append_left _ (List.mem_of_getElem? (i := 127) rfl)))
set_option maxRecDepth 20000 in
theorem tq_474 : Cond.instanceMethod yX5_add ∈ lw_tbl := List.mem_append_right _ (List.mem_append_right _ (List.mem_append_left _ (List.mem_of_getElem? (i := 128) rfl)))
set_option maxRecDepth 20000 in
theorem tq_475 : Cond.selects RX5 yX5_add yX5_add ∈ lw_tbl := List.mem_append_right _ (List.mem_append_right _ (List.mem_append_left _ (List.mem_of_getElem? (i := 129) rfl)))
set_option maxRecDepth 20000 in
theorem tq_476 : Cond.code yX5_add cX5_add 2 (some .int) ∈ lw_tbl := List.mem_append_right _ (List.mem_append_right _ (List.mem_append_left _ (List.mem_of_getElem? (i := 130) rfl)))
set_option maxRecDepth 20000 in
theorem tq_477 : Cond.methodLink RX5 141 yX3_putIn ∈ lw_tbl := List.mem_append_right _ (List.mem_append_right _ (List.mem_append_left _ (List.mem_of_getElem? (i := 131) rfl)))
set_option maxRecDepth 20000 in
theorem tq_478 : Cond.instanceMethod yX3_putIn ∈ lw_tbl := List.mem_append_right _ (List.mem_append_right _ (List.mem_append_left _ (List.mem_of_getElem? (i := 132) rfl)))
set_option maxRecDepth 20000 in
theorem tq_479 : Cond.selects RX3 yX3_putIn yX3_putIn ∈ lw_tbl := List.mem_append_right _ (List.mem_append_right _ (List.mem_append_left _ (List.mem_of_getElem? (i := 133) rfl)))
set_option maxRecDepth 20000 in
theorem tq_480 : Cond.code yX3_putIn cX3_putIn 8 none ∈ lw_tbl := List.mem_append_right _ (List.mem_append_right _ (List.mem_append_left _ (List.mem_of_getElem? (i := 134) rfl)))
set_option maxRecDepth 20000 in
theorem tq_481 : Cond.methodLink RX3 60 yX3_greyAt ∈ lw_tbl := List.mem_append_right _ (List.mem_append_right _ (List.mem_append_left _ (List.mem_of_getElem? (i := 135) rfl)))
set_option maxRecDepth 20000 in
theorem tq_482 : Cond.methodLink RL 68 yX6_add ∈ lw_tbl := List.mem_append_right _ (List.mem_append_right _ (List.mem_append_right _ (List.mem_append_left _ (List.mem_of_getElem? (i := 220) rfl))))
set_option maxRecDepth 20000 in
theorem tq_483 : Cond.instanceMethod yX6_add ∈ lw_tbl := List.mem_append_right _ (List.mem_append_right _ (List.mem_append_right _ (List.mem_append_left _ (List.mem_of_getElem? (i := 221) rfl))))
set_option maxRecDepth 20000 in
theorem tq_484 : Cond.selects RX6 yX6_add yX6_add ∈ lw_tbl := List.mem_append_right _ (List.mem_append_right _ (List.mem_append_right _ (List.mem_append_left _ (List.mem_of_getElem? (i := 222) rfl))))
set_option maxRecDepth 20000 in
theorem tq_485 : Cond.code yX6_add cX6_add 2 (some .int) ∈ lw_tbl := List.mem_append_right _ (List.mem_append_right _ (List.mem_append_right _ (List.mem_append_left _ (List.mem_of_getElem? (i := 223) rfl))))
set_option maxRecDepth 20000 in
theorem tq_486 : Cond.methodLink RX6 156 yX6_addSeam ∈ lw_tbl := List.mem_append_right _ (List.mem_append_right _ (List.mem_append_right _ (List.mem_append_left _ (List.mem_of_getElem? (i := 224) rfl))))
set_option maxRecDepth 20000 in
theorem tq_487 : Cond.instanceMethod yX6_addSeam ∈ lw_tbl := List.mem_append_right _ (List.mem_append_right _ (List.mem_append_right _ (List.mem_append_left _ (List.mem_of_getElem? (i := 226) rfl))))
set_option maxRecDepth 20000 in
theorem tq_488 : Cond.selects RX6 yX6_addSeam yX6_addSeam ∈ lw_tbl := List.mem_append_left _ (List.mem_of_getElem? (i := 42) rfl)
set_option maxRecDepth 20000 in
theorem tq_489 : Cond.code yX6_addSeam cX6_addSeam 4 none ∈ lw_tbl := List.mem_append_right _ (List.mem_append_right _ (List.mem_append_right _ (List.mem_append_left _ (List.mem_of_getElem? (i := 227) rfl))))
set_option maxRecDepth 20000 in
theorem tq_490 : Cond.methodLink RL 69 yX5_least ∈ lw_tbl := List.mem_append_right _ (List.mem_append_right _ (List.mem_append_left _ (List.mem_of_getElem? (i := 136) rfl)))
set_option maxRecDepth 20000 in
theorem tq_491 : Cond.instanceMethod yX5_least ∈ lw_tbl := List.mem_append_right _ (List.mem_append_right _ (List.mem_append_left _ (List.mem_of_getElem? (i := 137) rfl)))
set_option maxRecDepth 20000 in
theorem tq_492 : Cond.selects RX5 yX5_least yX5_least ∈ lw_tbl := List.mem_append_right _ (List.mem_append_right _ (List.mem_append_left _ (List.mem_of_getElem? (i := 138) rfl)))
set_option maxRecDepth 20000 in
theorem tq_493 : Cond.code yX5_least cX5_least 3 (some .int) ∈ lw_tbl := List.mem_append_right _ (List.mem_append_right _ (List.mem_append_left _ (List.mem_of_getElem? (i := 139) rfl)))
set_option maxRecDepth 20000 in
theorem tq_494 : Cond.methodLink RX5 144 yX3_lightestInRow ∈ lw_tbl := List.mem_append_right _ (List.mem_append_right _ (List.mem_append_left _ (List.mem_of_getElem? (i := 140) rfl)))
set_option maxRecDepth 20000 in
theorem tq_495 : Cond.instanceMethod yX3_lightestInRow ∈ lw_tbl := List.mem_append_right _ (List.mem_append_right _ (List.mem_append_left _ (List.mem_of_getElem? (i := 141) rfl)))
set_option maxRecDepth 20000 in
theorem tq_496 : Cond.selects RX3 yX3_lightestInRow yX3_lightestInRow ∈ lw_tbl := List.mem_append_right _ (List.mem_append_right _ (List.mem_append_left _ (List.mem_of_getElem? (i := 142) rfl)))
set_option maxRecDepth 20000 in
theorem tq_497 : Cond.code yX3_lightestInRow cX3_lightestInRow 4 (some .int) ∈ lw_tbl := List.mem_append_right _ (List.mem_append_right _ (List.mem_append_left _ (List.mem_of_getElem? (i := 143) rfl)))
set_option maxRecDepth 20000 in
theorem tq_498 : Cond.methodLink RX3 57 yX3_weightAt ∈ lw_tbl := List.mem_append_right _ (List.mem_append_right _ (List.mem_append_left _ (List.mem_of_getElem? (i := 144) rfl)))
set_option maxRecDepth 20000 in
theorem tq_499 : Cond.methodLink RX5 147 yX3_lightestInColumn ∈ lw_tbl := List.mem_append_right _ (List.mem_append_right _ (List.mem_append_left _ (List.mem_of_getElem? (i := 145) rfl)))
set_option maxRecDepth 20000 in
theorem tq_500 : Cond.instanceMethod yX3_lightestInColumn ∈ lw_tbl := List.mem_append_right _ (List.mem_append_right _ (List.mem_append_left _ (List.mem_of_getElem? (i := 146) rfl)))
set_option maxRecDepth 20000 in
theorem tq_501 : Cond.selects RX3 yX3_lightestInColumn yX3_lightestInColumn ∈ lw_tbl := List.mem_append_right _ (List.mem_append_right _ (List.mem_append_left _ (List.mem_of_getElem? (i := 147) rfl)))
set_option maxRecDepth 20000 in
theorem tq_502 : Cond.code yX3_lightestInColumn cX3_lightestInColumn 4 (some .int) ∈ lw_tbl := List.mem_append_right _ (List.mem_append_right _ (List.mem_append_left _ (List.mem_of_getElem? (i := 148) rfl)))
set_option maxRecDepth 20000 in
theorem tq_503 : Cond.methodLink RL 72 yX6_least ∈ lw_tbl := List.mem_append_right _ (List.mem_append_right _ (List.mem_append_right _ (List.mem_append_left _ (List.mem_of_getElem? (i := 228) rfl))))
set_option maxRecDepth 20000 in
theorem tq_504 : Cond.instanceMethod yX6_least ∈ lw_tbl := List.mem_append_right _ (List.mem_append_right _ (List.mem_append_right _ (List.mem_append_left _ (List.mem_of_getElem? (i := 229) rfl))))
set_option maxRecDepth 20000 in
theorem tq_505 : Cond.selects RX6 yX6_least yX6_least ∈ lw_tbl := List.mem_append_right _ (List.mem_append_right _ (List.mem_append_right _ (List.mem_append_left _ (List.mem_of_getElem? (i := 230) rfl))))
set_option maxRecDepth 20000 in
theorem tq_506 : Cond.code yX6_least cX6_least 5 (some .int) ∈ lw_tbl := List.mem_append_right _ (List.mem_append_right _ (List.mem_append_right _ (List.mem_append_left _ (List.mem_of_getElem? (i := 231) rfl))))
set_option maxRecDepth 20000 in
theorem tq_507 : Cond.methodLink RL 73 yX5_best ∈ lw_tbl := List.mem_append_right _ (List.mem_append_right _ (List.mem_append_left _ (List.mem_of_getElem? (i := 149) rfl)))
set_option maxRecDepth 20000 in
theorem tq_508 : Cond.instanceMethod yX5_best ∈ lw_tbl := List.mem_append_right _ (List.mem_append_right _ (List.mem_append_left _ (List.mem_of_getElem? (i := 150) rfl)))
set_option maxRecDepth 20000 in
theorem tq_509 : Cond.selects RX5 yX5_best yX5_best ∈ lw_tbl := List.mem_append_right _ (List.mem_append_right _ (List.mem_append_left _ (List.mem_of_getElem? (i := 151) rfl)))
set_option maxRecDepth 20000 in
theorem tq_510 : Cond.code yX5_best cX5_best 4 (some .int) ∈ lw_tbl := List.mem_append_right _ (List.mem_append_right _ (List.mem_append_left _ (List.mem_of_getElem? (i := 152) rfl)))
set_option maxRecDepth 20000 in
theorem tq_511 : Cond.fieldLink RX5 157 "SeamPictures$OrderSearch" "bestCost" "I" ∈ lw_tbl := List.mem_append_right _ (List.mem_append_left _ (List.mem_of_getElem? (i := 99) rfl))
set_option maxRecDepth 20000 in
theorem tq_512 : Cond.fieldLink RX5 160 "SeamPictures$OrderSearch" "ordersAtBest" "I" ∈ lw_tbl := List.mem_append_right _ (List.mem_append_left _ (List.mem_of_getElem? (i := 105) rfl))
set_option maxRecDepth 20000 in
theorem tq_513 : Cond.fieldLink RX5 163 "SeamPictures$OrderSearch" "bestOrder" "I" ∈ lw_tbl := List.mem_append_right _ (List.mem_append_left _ (List.mem_of_getElem? (i := 101) rfl))
set_option maxRecDepth 20000 in
theorem tq_514 : Cond.fieldLink RX5 166 "SeamPictures$OrderSearch" "bestKeptCut" "I" ∈ lw_tbl := List.mem_append_right _ (List.mem_append_left _ (List.mem_of_getElem? (i := 103) rfl))
set_option maxRecDepth 20000 in
theorem tq_515 : Cond.methodLink RX5 150 yX5_canReach ∈ lw_tbl := List.mem_append_right _ (List.mem_append_right _ (List.mem_append_left _ (List.mem_of_getElem? (i := 153) rfl)))
set_option maxRecDepth 20000 in
theorem tq_516 : Cond.instanceMethod yX5_canReach ∈ lw_tbl := List.mem_append_right _ (List.mem_append_right _ (List.mem_append_left _ (List.mem_of_getElem? (i := 155) rfl)))
set_option maxRecDepth 20000 in
theorem tq_517 : Cond.selects RX5 yX5_canReach yX5_canReach ∈ lw_tbl := List.mem_append_left _ (List.mem_of_getElem? (i := 9) rfl)
set_option maxRecDepth 20000 in
theorem tq_518 : Cond.code yX5_canReach cX5_canReach 3 (some .boolean) ∈ lw_tbl := List.mem_append_right _ (List.mem_append_right _ (List.mem_append_left _ (List.mem_of_getElem? (i := 156) rfl)))
set_option maxRecDepth 20000 in
theorem tq_519 : Cond.methodLink RX5 153 yX1_findBest ∈ lw_tbl := List.mem_append_right _ (List.mem_append_right _ (List.mem_append_left _ (List.mem_of_getElem? (i := 157) rfl)))
set_option maxRecDepth 20000 in
theorem tq_520 : Cond.instanceMethod yX1_findBest ∈ lw_tbl := List.mem_append_right _ (List.mem_append_right _ (List.mem_append_left _ (List.mem_of_getElem? (i := 158) rfl)))
set_option maxRecDepth 20000 in
theorem tq_521 : Cond.selects RX1 yX1_findBest yX1_findBest ∈ lw_tbl := List.mem_append_right _ (List.mem_append_right _ (List.mem_append_left _ (List.mem_of_getElem? (i := 159) rfl)))
set_option maxRecDepth 20000 in
theorem tq_522 : Cond.code yX1_findBest cX1_findBest 4 none ∈ lw_tbl := List.mem_append_right _ (List.mem_append_right _ (List.mem_append_left _ (List.mem_of_getElem? (i := 160) rfl)))
set_option maxRecDepth 20000 in
theorem tq_523 : Cond.fieldLink RX1 25 "SeamPictures$OrderSearch" "ordersAtBest" "I" ∈ lw_tbl := List.mem_append_right _ (List.mem_append_left _ (List.mem_of_getElem? (i := 104) rfl))
set_option maxRecDepth 20000 in
theorem tq_524 : Cond.methodLink RX1 29 yX3_copyFrom ∈ lw_tbl := List.mem_append_right _ (List.mem_append_right _ (List.mem_append_left _ (List.mem_of_getElem? (i := 161) rfl)))
set_option maxRecDepth 20000 in
theorem tq_525 : Cond.instanceMethod yX3_copyFrom ∈ lw_tbl := List.mem_append_right _ (List.mem_append_right _ (List.mem_append_left _ (List.mem_of_getElem? (i := 162) rfl)))
set_option maxRecDepth 20000 in
theorem tq_526 : Cond.selects RX3 yX3_copyFrom yX3_copyFrom ∈ lw_tbl := List.mem_append_right _ (List.mem_append_right _ (List.mem_append_left _ (List.mem_of_getElem? (i := 163) rfl)))
set_option maxRecDepth 20000 in
theorem tq_527 : Cond.code yX3_copyFrom cX3_copyFrom 3 none ∈ lw_tbl := List.mem_append_right _ (List.mem_append_right _ (List.mem_append_left _ (List.mem_of_getElem? (i := 164) rfl)))
set_option maxRecDepth 20000 in
theorem tq_528 : Cond.methodLink RX1 33 yX1_tryOrders ∈ lw_tbl := List.mem_append_right _ (List.mem_append_right _ (List.mem_append_left _ (List.mem_of_getElem? (i := 165) rfl)))
set_option maxRecDepth 20000 in
theorem tq_529 : Cond.instanceMethod yX1_tryOrders ∈ lw_tbl := List.mem_append_right _ (List.mem_append_right _ (List.mem_append_left _ (List.mem_of_getElem? (i := 167) rfl)))
set_option maxRecDepth 20000 in
theorem tq_530 : Cond.selects RX1 yX1_tryOrders yX1_tryOrders ∈ lw_tbl := List.mem_append_left _ (List.mem_of_getElem? (i := 10) rfl)
set_option maxRecDepth 20000 in
theorem tq_531 : Cond.code yX1_tryOrders cX1_tryOrders 10 none ∈ lw_tbl := List.mem_append_right _ (List.mem_append_right _ (List.mem_append_left _ (List.mem_of_getElem? (i := 168) rfl)))
set_option maxRecDepth 20000 in
theorem tq_532 : Cond.fieldLink RX1 53 "SeamPictures$Seam" "total" "I" ∈ lw_tbl := List.mem_append_right _ (List.mem_append_left _ (List.mem_of_getElem? (i := 55) rfl))
set_option maxRecDepth 20000 in
theorem tq_533 : Cond.methodLink RX1 37 yX1_compare ∈ lw_tbl := List.mem_append_right _ (List.mem_append_right _ (List.mem_append_left _ (List.mem_of_getElem? (i := 169) rfl)))
set_option maxRecDepth 20000 in
theorem tq_534 : Cond.instanceMethod yX1_compare ∈ lw_tbl := List.mem_append_right _ (List.mem_append_right _ (List.mem_append_left _ (List.mem_of_getElem? (i := 171) rfl)))
set_option maxRecDepth 20000 in
theorem tq_535 : Cond.selects RX1 yX1_compare yX1_compare ∈ lw_tbl := List.mem_append_left _ (List.mem_of_getElem? (i := 11) rfl)
set_option maxRecDepth 20000 in
theorem tq_536 : Cond.code yX1_compare cX1_compare 4 none ∈ lw_tbl := List.mem_append_right _ (List.mem_append_right _ (List.mem_append_left _ (List.mem_of_getElem? (i := 172) rfl)))
set_option maxRecDepth 20000 in
theorem tq_537 : Cond.fieldLink RX1 56 "SeamPictures$OrderSearch" "bestCost" "I" ∈ lw_tbl := List.mem_append_right _ (List.mem_append_left _ (List.mem_of_getElem? (i := 98) rfl))
set_option maxRecDepth 20000 in
theorem tq_538 : Cond.fieldLink RX1 59 "SeamPictures$OrderSearch" "bestOrder" "I" ∈ lw_tbl := List.mem_append_right _ (List.mem_append_left _ (List.mem_of_getElem? (i := 100) rfl))
set_option maxRecDepth 20000 in
theorem tq_539 : Cond.fieldLink RX1 62 "SeamPictures$OrderSearch" "bestKeptCut" "I" ∈ lw_tbl := List.mem_append_right _ (List.mem_append_left _ (List.mem_of_getElem? (i := 102) rfl))
set_option maxRecDepth 20000 in
theorem tq_540 : Cond.methodLink RX1 41 yX4_findLeast ∈ lw_tbl := List.mem_append_right _ (List.mem_append_right _ (List.mem_append_left _ (List.mem_of_getElem? (i := 173) rfl)))
set_option maxRecDepth 20000 in
theorem tq_541 : Cond.methodLink RX1 45 yX3_keptDotsOf ∈ lw_tbl := List.mem_append_right _ (List.mem_append_right _ (List.mem_append_left _ (List.mem_of_getElem? (i := 174) rfl)))
set_option maxRecDepth 20000 in
theorem tq_542 : Cond.instanceMethod yX3_keptDotsOf ∈ lw_tbl := List.mem_append_right _ (List.mem_append_right _ (List.mem_append_left _ (List.mem_of_getElem? (i := 175) rfl)))
set_option maxRecDepth 20000 in
theorem tq_543 : Cond.selects RX3 yX3_keptDotsOf yX3_keptDotsOf ∈ lw_tbl := List.mem_append_right _ (List.mem_append_right _ (List.mem_append_left _ (List.mem_of_getElem? (i := 176) rfl)))
set_option maxRecDepth 20000 in
theorem tq_544 : Cond.code yX3_keptDotsOf cX3_keptDotsOf 4 (some .int) ∈ lw_tbl := List.mem_append_right _ (List.mem_append_right _ (List.mem_append_left _ (List.mem_of_getElem? (i := 177) rfl)))
set_option maxRecDepth 20000 in
theorem tq_545 : Cond.methodLink RX3 63 yX3_markAt ∈ lw_tbl := List.mem_append_right _ (List.mem_append_right _ (List.mem_append_left _ (List.mem_of_getElem? (i := 178) rfl)))
set_option maxRecDepth 20000 in
theorem tq_546 : Cond.methodLink RX1 49 yX3_takeOut ∈ lw_tbl := List.mem_append_right _ (List.mem_append_right _ (List.mem_append_left _ (List.mem_of_getElem? (i := 179) rfl)))
set_option maxRecDepth 20000 in
theorem tq_547 : Cond.methodLink RL 76 yX6_best ∈ lw_tbl := List.mem_append_right _ (List.mem_append_right _ (List.mem_append_right _ (List.mem_append_left _ (List.mem_of_getElem? (i := 232) rfl))))
set_option maxRecDepth 20000 in
theorem tq_548 : Cond.instanceMethod yX6_best ∈ lw_tbl := List.mem_append_right _ (List.mem_append_right _ (List.mem_append_right _ (List.mem_append_left _ (List.mem_of_getElem? (i := 233) rfl))))
set_option maxRecDepth 20000 in
theorem tq_549 : Cond.selects RX6 yX6_best yX6_best ∈ lw_tbl := List.mem_append_right _ (List.mem_append_right _ (List.mem_append_right _ (List.mem_append_left _ (List.mem_of_getElem? (i := 234) rfl))))
set_option maxRecDepth 20000 in
theorem tq_550 : Cond.code yX6_best cX6_best 4 (some .int) ∈ lw_tbl := List.mem_append_right _ (List.mem_append_right _ (List.mem_append_right _ (List.mem_append_left _ (List.mem_of_getElem? (i := 235) rfl))))
set_option maxRecDepth 20000 in
theorem tq_551 : Cond.fieldLink RX6 171 "SeamPicturesModel" "bestCost" "I" ∈ lw_tbl := List.mem_append_right _ (List.mem_append_right _ (List.mem_append_right _ (List.mem_append_left _ (List.mem_of_getElem? (i := 11) rfl))))
set_option maxRecDepth 20000 in
theorem tq_552 : Cond.fieldLink RX6 162 "SeamPicturesModel" "asGood" "I" ∈ lw_tbl := List.mem_append_right _ (List.mem_append_right _ (List.mem_append_right _ (List.mem_append_left _ (List.mem_of_getElem? (i := 13) rfl))))
set_option maxRecDepth 20000 in
theorem tq_553 : Cond.fieldLink RX6 159 "SeamPicturesModel" "bestOrder" "I" ∈ lw_tbl := List.mem_append_right _ (List.mem_append_right _ (List.mem_append_right _ (List.mem_append_left _ (List.mem_of_getElem? (i := 12) rfl))))
set_option maxRecDepth 20000 in
theorem tq_554 : Cond.fieldLink RX6 174 "SeamPicturesModel" "bestKept" "I" ∈ lw_tbl := List.mem_append_right _ (List.mem_append_right _ (List.mem_append_right _ (List.mem_append_left _ (List.mem_of_getElem? (i := 14) rfl))))
set_option maxRecDepth 20000 in
theorem tq_555 : Cond.methodLink RX6 177 yX6_canGo ∈ lw_tbl := List.mem_append_right _ (List.mem_append_right _ (List.mem_append_right _ (List.mem_append_left _ (List.mem_of_getElem? (i := 236) rfl))))
set_option maxRecDepth 20000 in
theorem tq_556 : Cond.instanceMethod yX6_canGo ∈ lw_tbl := List.mem_append_right _ (List.mem_append_right _ (List.mem_append_right _ (List.mem_append_left _ (List.mem_of_getElem? (i := 238) rfl))))
set_option maxRecDepth 20000 in
theorem tq_557 : Cond.selects RX6 yX6_canGo yX6_canGo ∈ lw_tbl := List.mem_append_left _ (List.mem_of_getElem? (i := 43) rfl)
set_option maxRecDepth 20000 in
theorem tq_558 : Cond.code yX6_canGo cX6_canGo 3 (some .boolean) ∈ lw_tbl := List.mem_append_right _ (List.mem_append_right _ (List.mem_append_right _ (List.mem_append_left _ (List.mem_of_getElem? (i := 239) rfl))))
set_option maxRecDepth 20000 in
theorem tq_559 : Cond.methodLink RX6 180 yX6_layBest ∈ lw_tbl := List.mem_append_right _ (List.mem_append_right _ (List.mem_append_right _ (List.mem_append_right _ (List.mem_of_getElem? (i := 0) rfl))))
set_option maxRecDepth 20000 in
theorem tq_560 : Cond.instanceMethod yX6_layBest ∈ lw_tbl := List.mem_append_right _ (List.mem_append_right _ (List.mem_append_right _ (List.mem_append_right _ (List.mem_of_getElem? (i := 2) rfl))))
set_option maxRecDepth 20000 in
theorem tq_561 : Cond.selects RX6 yX6_layBest yX6_layBest ∈ lw_tbl := List.mem_append_left _ (List.mem_of_getElem? (i := 44) rfl)
set_option maxRecDepth 20000 in
theorem tq_562 : Cond.code yX6_layBest cX6_layBest 5 none ∈ lw_tbl := List.mem_append_right _ (List.mem_append_right _ (List.mem_append_right _ (List.mem_append_right _ (List.mem_of_getElem? (i := 3) rfl))))
set_option maxRecDepth 20000 in
theorem tq_563 : Cond.methodLink RX6 165 yX6_bits ∈ lw_tbl := List.mem_append_right _ (List.mem_append_right _ (List.mem_append_right _ (List.mem_append_right _ (List.mem_of_getElem? (i := 4) rfl))))
set_option maxRecDepth 20000 in
theorem tq_564 : Cond.static yX6_bits ∈ lw_tbl := List.mem_append_right _ (List.mem_append_right _ (List.mem_append_right _ (List.mem_append_right _ (List.mem_of_getElem? (i := 5) rfl))))
set_option maxRecDepth 20000 in
theorem tq_565 : Cond.code yX6_bits cX6_bits 3 (some .int) ∈ lw_tbl := List.mem_append_right _ (List.mem_append_right _ (List.mem_append_right _ (List.mem_append_right _ (List.mem_of_getElem? (i := 6) rfl))))
set_option maxRecDepth 20000 in
theorem tq_566 : Cond.methodLink RX6 168 yX6_goOrder ∈ lw_tbl := List.mem_append_right _ (List.mem_append_right _ (List.mem_append_right _ (List.mem_append_right _ (List.mem_of_getElem? (i := 7) rfl))))
set_option maxRecDepth 20000 in
theorem tq_567 : Cond.instanceMethod yX6_goOrder ∈ lw_tbl := List.mem_append_right _ (List.mem_append_right _ (List.mem_append_right _ (List.mem_append_right _ (List.mem_of_getElem? (i := 9) rfl))))
set_option maxRecDepth 20000 in
theorem tq_568 : Cond.selects RX6 yX6_goOrder yX6_goOrder ∈ lw_tbl := List.mem_append_left _ (List.mem_of_getElem? (i := 45) rfl)
set_option maxRecDepth 20000 in
theorem tq_569 : Cond.code yX6_goOrder cX6_goOrder 5 (some .int) ∈ lw_tbl := List.mem_append_right _ (List.mem_append_right _ (List.mem_append_right _ (List.mem_append_right _ (List.mem_of_getElem? (i := 10) rfl))))
set_option maxRecDepth 20000 in
theorem tq_570 : Cond.methodLink RX6 184 yX6_turned ∈ lw_tbl := List.mem_append_right _ (List.mem_append_right _ (List.mem_append_right _ (List.mem_append_right _ (List.mem_of_getElem? (i := 11) rfl))))
set_option maxRecDepth 20000 in
theorem tq_571 : Cond.static yX6_turned ∈ lw_tbl := List.mem_append_right _ (List.mem_append_right _ (List.mem_append_right _ (List.mem_append_right _ (List.mem_of_getElem? (i := 12) rfl))))
set_option maxRecDepth 20000 in
theorem tq_572 : Cond.code yX6_turned cX6_turned 4 (some .int) ∈ lw_tbl := List.mem_append_right _ (List.mem_append_right _ (List.mem_append_right _ (List.mem_append_right _ (List.mem_of_getElem? (i := 13) rfl))))
set_option maxRecDepth 20000 in
theorem tq_573 : Cond.methodLink RL 77 yX5_table ∈ lw_tbl := List.mem_append_right _ (List.mem_append_right _ (List.mem_append_left _ (List.mem_of_getElem? (i := 180) rfl)))
set_option maxRecDepth 20000 in
theorem tq_574 : Cond.instanceMethod yX5_table ∈ lw_tbl := List.mem_append_right _ (List.mem_append_right _ (List.mem_append_left _ (List.mem_of_getElem? (i := 181) rfl)))
set_option maxRecDepth 20000 in
theorem tq_575 : Cond.selects RX5 yX5_table yX5_table ∈ lw_tbl := List.mem_append_right _ (List.mem_append_right _ (List.mem_append_left _ (List.mem_of_getElem? (i := 182) rfl)))
set_option maxRecDepth 20000 in
theorem tq_576 : Cond.code yX5_table cX5_table 6 (some .int) ∈ lw_tbl := List.mem_append_right _ (List.mem_append_right _ (List.mem_append_left _ (List.mem_of_getElem? (i := 183) rfl)))
set_option maxRecDepth 20000 in
theorem tq_577 : Cond.fieldLink RX5 172 "SeamPictures$CostTable" "costs" "[I" ∈ lw_tbl := List.mem_append_right _ (List.mem_append_left _ (List.mem_of_getElem? (i := 134) rfl))
set_option maxRecDepth 20000 in
theorem tq_578 : Cond.fieldLink RX5 175 "SeamPictures$CostTable" "row" "[LSeamPictures$Picture;" ∈ lw_tbl := List.mem_append_right _ (List.mem_append_left _ (List.mem_of_getElem? (i := 132) rfl))
set_option maxRecDepth 20000 in
theorem tq_579 : Cond.methodLink RX5 169 yX0_fillTo ∈ lw_tbl := List.mem_append_right _ (List.mem_append_right _ (List.mem_append_left _ (List.mem_of_getElem? (i := 184) rfl)))
set_option maxRecDepth 20000 in
theorem tq_580 : Cond.instanceMethod yX0_fillTo ∈ lw_tbl := List.mem_append_right _ (List.mem_append_right _ (List.mem_append_left _ (List.mem_of_getElem? (i := 185) rfl)))
set_option maxRecDepth 20000 in
theorem tq_581 : Cond.selects RX0 yX0_fillTo yX0_fillTo ∈ lw_tbl := List.mem_append_right _ (List.mem_append_right _ (List.mem_append_left _ (List.mem_of_getElem? (i := 186) rfl)))
set_option maxRecDepth 20000 in
theorem tq_582 : Cond.code yX0_fillTo cX0_fillTo 6 none ∈ lw_tbl := List.mem_append_right _ (List.mem_append_right _ (List.mem_append_left _ (List.mem_of_getElem? (i := 187) rfl)))
set_option maxRecDepth 20000 in
theorem tq_583 : Cond.methodLink RX0 32 yX3_copyFrom ∈ lw_tbl := List.mem_append_right _ (List.mem_append_right _ (List.mem_append_left _ (List.mem_of_getElem? (i := 188) rfl)))
set_option maxRecDepth 20000 in
theorem tq_584 : Cond.methodLink RX0 36 yX4_findLeast ∈ lw_tbl := List.mem_append_right _ (List.mem_append_right _ (List.mem_append_left _ (List.mem_of_getElem? (i := 189) rfl)))
set_option maxRecDepth 20000 in
theorem tq_585 : Cond.methodLink RX0 40 yX0_takeLying ∈ lw_tbl := List.mem_append_right _ (List.mem_append_right _ (List.mem_append_left _ (List.mem_of_getElem? (i := 190) rfl)))
set_option maxRecDepth 20000 in
theorem tq_586 : Cond.instanceMethod yX0_takeLying ∈ lw_tbl := List.mem_append_right _ (List.mem_append_right _ (List.mem_append_left _ (List.mem_of_getElem? (i := 192) rfl)))
set_option maxRecDepth 20000 in
theorem tq_587 : Cond.selects RX0 yX0_takeLying yX0_takeLying ∈ lw_tbl := List.mem_append_left _ (List.mem_of_getElem? (i := 12) rfl)
set_option maxRecDepth 20000 in
theorem tq_588 : Cond.code yX0_takeLying cX0_takeLying 2 none ∈ lw_tbl := List.mem_append_right _ (List.mem_append_right _ (List.mem_append_left _ (List.mem_of_getElem? (i := 193) rfl)))
set_option maxRecDepth 20000 in
theorem tq_589 : Cond.fieldLink RX0 50 "SeamPictures$Seam" "total" "I" ∈ lw_tbl := List.mem_append_right _ (List.mem_append_left _ (List.mem_of_getElem? (i := 54) rfl))
set_option maxRecDepth 20000 in
theorem tq_590 : Cond.methodLink RX0 54 yX3_takeOut ∈ lw_tbl := List.mem_append_right _ (List.mem_append_right _ (List.mem_append_left _ (List.mem_of_getElem? (i := 194) rfl)))
set_option maxRecDepth 20000 in
theorem tq_591 : Cond.methodLink RX0 44 yX0_takeUpright ∈ lw_tbl := List.mem_append_right _ (List.mem_append_right _ (List.mem_append_left _ (List.mem_of_getElem? (i := 195) rfl)))
set_option maxRecDepth 20000 in
theorem tq_592 : Cond.instanceMethod yX0_takeUpright ∈ lw_tbl := List.mem_append_right _ (List.mem_append_right _ (List.mem_append_left _ (List.mem_of_getElem? (i := 197) rfl)))
set_option maxRecDepth 20000 in
theorem tq_593 : Cond.selects RX0 yX0_takeUpright yX0_takeUpright ∈ lw_tbl := List.mem_append_left _ (List.mem_of_getElem? (i := 13) rfl)
set_option maxRecDepth 20000 in
theorem tq_594 : Cond.code yX0_takeUpright cX0_takeUpright 2 none ∈ lw_tbl := List.mem_append_right _ (List.mem_append_right _ (List.mem_append_left _ (List.mem_of_getElem? (i := 198) rfl)))
set_option maxRecDepth 20000 in
theorem tq_595 : Cond.methodLink RX0 47 yX0_takeCheaper ∈ lw_tbl := List.mem_append_right _ (List.mem_append_right _ (List.mem_append_left _ (List.mem_of_getElem? (i := 199) rfl)))
set_option maxRecDepth 20000 in
theorem tq_596 : Cond.instanceMethod yX0_takeCheaper ∈ lw_tbl := List.mem_append_right _ (List.mem_append_right _ (List.mem_append_left _ (List.mem_of_getElem? (i := 201) rfl)))
set_option maxRecDepth 20000 in
theorem tq_597 : Cond.selects RX0 yX0_takeCheaper yX0_takeCheaper ∈ lw_tbl := List.mem_append_left _ (List.mem_of_getElem? (i := 14) rfl)
set_option maxRecDepth 20000 in
theorem tq_598 : Cond.code yX0_takeCheaper cX0_takeCheaper 2 none ∈ lw_tbl := List.mem_append_right _ (List.mem_append_right _ (List.mem_append_left _ (List.mem_of_getElem? (i := 202) rfl)))
set_option maxRecDepth 20000 in
theorem tq_599 : Cond.methodLink RL 80 yX6_table ∈ lw_tbl := List.mem_append_right _ (List.mem_append_right _ (List.mem_append_right _ (List.mem_append_right _ (List.mem_of_getElem? (i := 14) rfl))))
set_option maxRecDepth 20000 in
theorem tq_600 : Cond.instanceMethod yX6_table ∈ lw_tbl := List.mem_append_right _ (List.mem_append_right _ (List.mem_append_right _ (List.mem_append_right _ (List.mem_of_getElem? (i := 15) rfl))))
set_option maxRecDepth 20000 in
theorem tq_601 : Cond.selects RX6 yX6_table yX6_table ∈ lw_tbl := List.mem_append_right _ (List.mem_append_right _ (List.mem_append_right _ (List.mem_append_right _ (List.mem_of_getElem? (i := 16) rfl))))
set_option maxRecDepth 20000 in
theorem tq_602 : Cond.code yX6_table cX6_table 6 (some .int) ∈ lw_tbl := List.mem_append_right _ (List.mem_append_right _ (List.mem_append_right _ (List.mem_append_right _ (List.mem_of_getElem? (i := 17) rfl))))
set_option maxRecDepth 20000 in
theorem tq_603 : Cond.methodLink RX6 196 yX6_layTable ∈ lw_tbl := List.mem_append_right _ (List.mem_append_right _ (List.mem_append_right _ (List.mem_append_right _ (List.mem_of_getElem? (i := 18) rfl))))
set_option maxRecDepth 20000 in
theorem tq_604 : Cond.instanceMethod yX6_layTable ∈ lw_tbl := List.mem_append_right _ (List.mem_append_right _ (List.mem_append_right _ (List.mem_append_right _ (List.mem_of_getElem? (i := 20) rfl))))
set_option maxRecDepth 20000 in
theorem tq_605 : Cond.selects RX6 yX6_layTable yX6_layTable ∈ lw_tbl := List.mem_append_left _ (List.mem_of_getElem? (i := 46) rfl)
set_option maxRecDepth 20000 in
theorem tq_606 : Cond.code yX6_layTable cX6_layTable 5 none ∈ lw_tbl := List.mem_append_right _ (List.mem_append_right _ (List.mem_append_right _ (List.mem_append_right _ (List.mem_of_getElem? (i := 21) rfl))))
set_option maxRecDepth 20000 in
theorem tq_607 : Cond.methodLink RX6 190 yX6_save ∈ lw_tbl := List.mem_append_right _ (List.mem_append_right _ (List.mem_append_right _ (List.mem_append_right _ (List.mem_of_getElem? (i := 22) rfl))))
set_option maxRecDepth 20000 in
theorem tq_608 : Cond.instanceMethod yX6_save ∈ lw_tbl := List.mem_append_right _ (List.mem_append_right _ (List.mem_append_right _ (List.mem_append_right _ (List.mem_of_getElem? (i := 24) rfl))))
set_option maxRecDepth 20000 in
theorem tq_609 : Cond.selects RX6 yX6_save yX6_save ∈ lw_tbl := List.mem_append_left _ (List.mem_of_getElem? (i := 47) rfl)
set_option maxRecDepth 20000 in
theorem tq_610 : Cond.code yX6_save cX6_save 3 none ∈ lw_tbl := List.mem_append_right _ (List.mem_append_right _ (List.mem_append_right _ (List.mem_append_right _ (List.mem_of_getElem? (i := 25) rfl))))
set_option maxRecDepth 20000 in
theorem tq_611 : Cond.methodLink RX6 193 yX6_layPlace ∈ lw_tbl := List.mem_append_right _ (List.mem_append_right _ (List.mem_append_right _ (List.mem_append_right _ (List.mem_of_getElem? (i := 26) rfl))))
set_option maxRecDepth 20000 in
theorem tq_612 : Cond.instanceMethod yX6_layPlace ∈ lw_tbl := List.mem_append_right _ (List.mem_append_right _ (List.mem_append_right _ (List.mem_append_right _ (List.mem_of_getElem? (i := 28) rfl))))
set_option maxRecDepth 20000 in
theorem tq_613 : Cond.selects RX6 yX6_layPlace yX6_layPlace ∈ lw_tbl := List.mem_append_left _ (List.mem_of_getElem? (i := 48) rfl)
set_option maxRecDepth 20000 in
theorem tq_614 : Cond.code yX6_layPlace cX6_layPlace 6 none ∈ lw_tbl := List.mem_append_right _ (List.mem_append_right _ (List.mem_append_right _ (List.mem_append_right _ (List.mem_of_getElem? (i := 29) rfl))))
set_option maxRecDepth 20000 in
theorem tq_615 : Cond.methodLink RX6 187 yX6_load ∈ lw_tbl := List.mem_append_right _ (List.mem_append_right _ (List.mem_append_right _ (List.mem_append_right _ (List.mem_of_getElem? (i := 30) rfl))))
set_option maxRecDepth 20000 in
theorem tq_616 : Cond.instanceMethod yX6_load ∈ lw_tbl := List.mem_append_right _ (List.mem_append_right _ (List.mem_append_right _ (List.mem_append_right _ (List.mem_of_getElem? (i := 32) rfl))))
set_option maxRecDepth 20000 in
theorem tq_617 : Cond.selects RX6 yX6_load yX6_load ∈ lw_tbl := List.mem_append_left _ (List.mem_of_getElem? (i := 49) rfl)
set_option maxRecDepth 20000 in
theorem tq_618 : Cond.code yX6_load cX6_load 5 none ∈ lw_tbl := List.mem_append_right _ (List.mem_append_right _ (List.mem_append_right _ (List.mem_append_right _ (List.mem_of_getElem? (i := 33) rfl))))
set_option maxRecDepth 20000 in
theorem tq_619 : Cond.methodLink RL 81 yX5_go ∈ lw_tbl := List.mem_append_right _ (List.mem_append_right _ (List.mem_append_left _ (List.mem_of_getElem? (i := 203) rfl)))
set_option maxRecDepth 20000 in
theorem tq_620 : Cond.instanceMethod yX5_go ∈ lw_tbl := List.mem_append_right _ (List.mem_append_right _ (List.mem_append_left _ (List.mem_of_getElem? (i := 204) rfl)))
set_option maxRecDepth 20000 in
theorem tq_621 : Cond.selects RX5 yX5_go yX5_go ∈ lw_tbl := List.mem_append_right _ (List.mem_append_right _ (List.mem_append_left _ (List.mem_of_getElem? (i := 205) rfl)))
set_option maxRecDepth 20000 in
theorem tq_622 : Cond.code yX5_go cX5_go 4 (some .int) ∈ lw_tbl := List.mem_append_right _ (List.mem_append_right _ (List.mem_append_left _ (List.mem_of_getElem? (i := 206) rfl)))
set_option maxRecDepth 20000 in
theorem tq_623 : Cond.methodLink RL 84 yX6_go ∈ lw_tbl := List.mem_append_right _ (List.mem_append_right _ (List.mem_append_right _ (List.mem_append_right _ (List.mem_of_getElem? (i := 34) rfl))))
set_option maxRecDepth 20000 in
theorem tq_624 : Cond.instanceMethod yX6_go ∈ lw_tbl := List.mem_append_right _ (List.mem_append_right _ (List.mem_append_right _ (List.mem_append_right _ (List.mem_of_getElem? (i := 35) rfl))))
set_option maxRecDepth 20000 in
theorem tq_625 : Cond.selects RX6 yX6_go yX6_go ∈ lw_tbl := List.mem_append_right _ (List.mem_append_right _ (List.mem_append_right _ (List.mem_append_right _ (List.mem_of_getElem? (i := 36) rfl))))
set_option maxRecDepth 20000 in
theorem tq_626 : Cond.code yX6_go cX6_go 4 (some .int) ∈ lw_tbl := List.mem_append_right _ (List.mem_append_right _ (List.mem_append_right _ (List.mem_append_right _ (List.mem_of_getElem? (i := 37) rfl))))
set_option maxRecDepth 20000 in
theorem tq_627 : Cond.methodLink RL 85 yX5_image ∈ lw_tbl := List.mem_append_right _ (List.mem_append_right _ (List.mem_append_left _ (List.mem_of_getElem? (i := 207) rfl)))
set_option maxRecDepth 20000 in
theorem tq_628 : Cond.instanceMethod yX5_image ∈ lw_tbl := List.mem_append_right _ (List.mem_append_right _ (List.mem_append_left _ (List.mem_of_getElem? (i := 208) rfl)))
set_option maxRecDepth 20000 in
theorem tq_629 : Cond.selects RX5 yX5_image yX5_image ∈ lw_tbl := List.mem_append_right _ (List.mem_append_right _ (List.mem_append_left _ (List.mem_of_getElem? (i := 209) rfl)))
set_option maxRecDepth 20000 in
theorem tq_630 : Cond.code yX5_image cX5_image 2 (some .int) ∈ lw_tbl := List.mem_append_right _ (List.mem_append_right _ (List.mem_append_left _ (List.mem_of_getElem? (i := 210) rfl)))
set_option maxRecDepth 20000 in
theorem tq_631 : Cond.methodLink RX5 178 yX3_copyFrom ∈ lw_tbl := List.mem_append_right _ (List.mem_append_right _ (List.mem_append_left _ (List.mem_of_getElem? (i := 211) rfl)))
set_option maxRecDepth 20000 in
theorem tq_632 : Cond.methodLink RL 88 yX6_image ∈ lw_tbl := List.mem_append_right _ (List.mem_append_right _ (List.mem_append_right _ (List.mem_append_right _ (List.mem_of_getElem? (i := 38) rfl))))
set_option maxRecDepth 20000 in
theorem tq_633 : Cond.instanceMethod yX6_image ∈ lw_tbl := List.mem_append_right _ (List.mem_append_right _ (List.mem_append_right _ (List.mem_append_right _ (List.mem_of_getElem? (i := 39) rfl))))
set_option maxRecDepth 20000 in
theorem tq_634 : Cond.selects RX6 yX6_image yX6_image ∈ lw_tbl := List.mem_append_right _ (List.mem_append_right _ (List.mem_append_right _ (List.mem_append_right _ (List.mem_of_getElem? (i := 40) rfl))))
set_option maxRecDepth 20000 in
theorem tq_635 : Cond.code yX6_image cX6_image 3 (some .int) ∈ lw_tbl := List.mem_append_right _ (List.mem_append_right _ (List.mem_append_right _ (List.mem_append_right _ (List.mem_of_getElem? (i := 41) rfl))))
set_option maxRecDepth 20000 in
theorem tq_636 : Cond.methodLink RL 89 yX5_restore ∈ lw_tbl := List.mem_append_right _ (List.mem_append_right _ (List.mem_append_left _ (List.mem_of_getElem? (i := 212) rfl)))
set_option maxRecDepth 20000 in
theorem tq_637 : Cond.instanceMethod yX5_restore ∈ lw_tbl := List.mem_append_right _ (List.mem_append_right _ (List.mem_append_left _ (List.mem_of_getElem? (i := 213) rfl)))
set_option maxRecDepth 20000 in
theorem tq_638 : Cond.selects RX5 yX5_restore yX5_restore ∈ lw_tbl := List.mem_append_right _ (List.mem_append_right _ (List.mem_append_left _ (List.mem_of_getElem? (i := 214) rfl)))
set_option maxRecDepth 20000 in
theorem tq_639 : Cond.code yX5_restore cX5_restore 2 (some .int) ∈ lw_tbl := List.mem_append_right _ (List.mem_append_right _ (List.mem_append_left _ (List.mem_of_getElem? (i := 215) rfl)))
set_option maxRecDepth 20000 in
theorem tq_640 : Cond.methodLink RL 92 yX6_restore ∈ lw_tbl := List.mem_append_right _ (List.mem_append_right _ (List.mem_append_right _ (List.mem_append_right _ (List.mem_of_getElem? (i := 42) rfl))))
set_option maxRecDepth 20000 in
theorem tq_641 : Cond.instanceMethod yX6_restore ∈ lw_tbl := List.mem_append_right _ (List.mem_append_right _ (List.mem_append_right _ (List.mem_append_right _ (List.mem_of_getElem? (i := 43) rfl))))
set_option maxRecDepth 20000 in
theorem tq_642 : Cond.selects RX6 yX6_restore yX6_restore ∈ lw_tbl := List.mem_append_right _ (List.mem_append_right _ (List.mem_append_right _ (List.mem_append_right _ (List.mem_of_getElem? (i := 44) rfl))))
set_option maxRecDepth 20000 in
theorem tq_643 : Cond.code yX6_restore cX6_restore 3 (some .int) ∈ lw_tbl := List.mem_append_right _ (List.mem_append_right _ (List.mem_append_right _ (List.mem_append_right _ (List.mem_of_getElem? (i := 45) rfl))))
set_option maxRecDepth 20000 in
theorem tq_644 : Cond.methodLink RL 93 yX5_count ∈ lw_tbl := List.mem_append_right _ (List.mem_append_right _ (List.mem_append_left _ (List.mem_of_getElem? (i := 216) rfl)))
set_option maxRecDepth 20000 in
theorem tq_645 : Cond.instanceMethod yX5_count ∈ lw_tbl := List.mem_append_right _ (List.mem_append_right _ (List.mem_append_left _ (List.mem_of_getElem? (i := 217) rfl)))
set_option maxRecDepth 20000 in
theorem tq_646 : Cond.selects RX5 yX5_count yX5_count ∈ lw_tbl := List.mem_append_right _ (List.mem_append_right _ (List.mem_append_left _ (List.mem_of_getElem? (i := 218) rfl)))
set_option maxRecDepth 20000 in
theorem tq_647 : Cond.code yX5_count cX5_count 2 (some .int) ∈ lw_tbl := List.mem_append_right _ (List.mem_append_right _ (List.mem_append_left _ (List.mem_of_getElem? (i := 219) rfl)))
set_option maxRecDepth 20000 in
theorem tq_648 : Cond.fieldLink RX5 188 "SeamPictures$Pad" "length" "I" ∈ lw_tbl := List.mem_append_right _ (List.mem_append_left _ (List.mem_of_getElem? (i := 80) rfl))
set_option maxRecDepth 20000 in
theorem tq_649 : Cond.methodLink RX5 182 yX3_sumOfGreys ∈ lw_tbl := List.mem_append_right _ (List.mem_append_right _ (List.mem_append_left _ (List.mem_of_getElem? (i := 220) rfl)))
set_option maxRecDepth 20000 in
theorem tq_650 : Cond.instanceMethod yX3_sumOfGreys ∈ lw_tbl := List.mem_append_right _ (List.mem_append_right _ (List.mem_append_left _ (List.mem_of_getElem? (i := 221) rfl)))
set_option maxRecDepth 20000 in
theorem tq_651 : Cond.selects RX3 yX3_sumOfGreys yX3_sumOfGreys ∈ lw_tbl := List.mem_append_right _ (List.mem_append_right _ (List.mem_append_left _ (List.mem_of_getElem? (i := 222) rfl)))
set_option maxRecDepth 20000 in
theorem tq_652 : Cond.code yX3_sumOfGreys cX3_sumOfGreys 4 (some .int) ∈ lw_tbl := List.mem_append_right _ (List.mem_append_right _ (List.mem_append_left _ (List.mem_of_getElem? (i := 223) rfl)))
set_option maxRecDepth 20000 in
theorem tq_653 : Cond.methodLink RX5 185 yX3_dotsMarked ∈ lw_tbl := List.mem_append_right _ (List.mem_append_right _ (List.mem_append_left _ (List.mem_of_getElem? (i := 224) rfl)))
set_option maxRecDepth 20000 in
theorem tq_654 : Cond.instanceMethod yX3_dotsMarked ∈ lw_tbl := List.mem_append_right _ (List.mem_append_right _ (List.mem_append_left _ (List.mem_of_getElem? (i := 225) rfl)))
set_option maxRecDepth 20000 in
theorem tq_655 : Cond.selects RX3 yX3_dotsMarked yX3_dotsMarked ∈ lw_tbl := List.mem_append_right _ (List.mem_append_right _ (List.mem_append_left _ (List.mem_of_getElem? (i := 226) rfl)))
set_option maxRecDepth 20000 in
theorem tq_656 : Cond.code yX3_dotsMarked cX3_dotsMarked 5 (some .int) ∈ lw_tbl := List.mem_append_right _ (List.mem_append_right _ (List.mem_append_left _ (List.mem_of_getElem? (i := 227) rfl)))
set_option maxRecDepth 20000 in
theorem tq_657 : Cond.methodLink RX5 191 yX5_imagesKept ∈ lw_tbl := List.mem_append_right _ (List.mem_append_right _ (List.mem_append_left _ (List.mem_of_getElem? (i := 228) rfl)))
set_option maxRecDepth 20000 in
theorem tq_658 : Cond.instanceMethod yX5_imagesKept ∈ lw_tbl := List.mem_append_right _ (List.mem_append_right _ (List.mem_append_left _ (List.mem_of_getElem? (i := 230) rfl)))
set_option maxRecDepth 20000 in
theorem tq_659 : Cond.selects RX5 yX5_imagesKept yX5_imagesKept ∈ lw_tbl := List.mem_append_left _ (List.mem_of_getElem? (i := 15) rfl)
set_option maxRecDepth 20000 in
theorem tq_660 : Cond.code yX5_imagesKept cX5_imagesKept 3 (some .int) ∈ lw_tbl := List.mem_append_right _ (List.mem_append_right _ (List.mem_append_left _ (List.mem_of_getElem? (i := 231) rfl)))
set_option maxRecDepth 20000 in
theorem tq_661 : Cond.methodLink RL 96 yX6_count ∈ lw_tbl := List.mem_append_right _ (List.mem_append_right _ (List.mem_append_right _ (List.mem_append_right _ (List.mem_of_getElem? (i := 46) rfl))))
set_option maxRecDepth 20000 in
theorem tq_662 : Cond.instanceMethod yX6_count ∈ lw_tbl := List.mem_append_right _ (List.mem_append_right _ (List.mem_append_right _ (List.mem_append_right _ (List.mem_of_getElem? (i := 47) rfl))))
set_option maxRecDepth 20000 in
theorem tq_663 : Cond.selects RX6 yX6_count yX6_count ∈ lw_tbl := List.mem_append_right _ (List.mem_append_right _ (List.mem_append_right _ (List.mem_append_right _ (List.mem_of_getElem? (i := 48) rfl))))
set_option maxRecDepth 20000 in
theorem tq_664 : Cond.code yX6_count cX6_count 2 (some .int) ∈ lw_tbl := List.mem_append_right _ (List.mem_append_right _ (List.mem_append_right _ (List.mem_append_right _ (List.mem_of_getElem? (i := 49) rfl))))
set_option maxRecDepth 20000 in
theorem tq_665 : Cond.methodLink RX6 199 yX6_greys ∈ lw_tbl := List.mem_append_right _ (List.mem_append_right _ (List.mem_append_right _ (List.mem_append_right _ (List.mem_of_getElem? (i := 50) rfl))))
set_option maxRecDepth 20000 in
theorem tq_666 : Cond.instanceMethod yX6_greys ∈ lw_tbl := List.mem_append_right _ (List.mem_append_right _ (List.mem_append_right _ (List.mem_append_right _ (List.mem_of_getElem? (i := 52) rfl))))
set_option maxRecDepth 20000 in
theorem tq_667 : Cond.selects RX6 yX6_greys yX6_greys ∈ lw_tbl := List.mem_append_left _ (List.mem_of_getElem? (i := 50) rfl)
set_option maxRecDepth 20000 in
theorem tq_668 : Cond.code yX6_greys cX6_greys 3 (some .int) ∈ lw_tbl := List.mem_append_right _ (List.mem_append_right _ (List.mem_append_right _ (List.mem_append_right _ (List.mem_of_getElem? (i := 53) rfl))))
set_option maxRecDepth 20000 in
theorem tq_669 : Cond.methodLink RX6 202 yX6_dotsWith ∈ lw_tbl := List.mem_append_right _ (List.mem_append_right _ (List.mem_append_right _ (List.mem_append_right _ (List.mem_of_getElem? (i := 54) rfl))))
set_option maxRecDepth 20000 in
theorem tq_670 : Cond.instanceMethod yX6_dotsWith ∈ lw_tbl := List.mem_append_right _ (List.mem_append_right _ (List.mem_append_right _ (List.mem_append_right _ (List.mem_of_getElem? (i := 56) rfl))))
set_option maxRecDepth 20000 in
theorem tq_671 : Cond.selects RX6 yX6_dotsWith yX6_dotsWith ∈ lw_tbl := List.mem_append_left _ (List.mem_of_getElem? (i := 51) rfl)
set_option maxRecDepth 20000 in
theorem tq_672 : Cond.code yX6_dotsWith cX6_dotsWith 4 (some .int) ∈ lw_tbl := List.mem_append_right _ (List.mem_append_right _ (List.mem_append_right _ (List.mem_append_right _ (List.mem_of_getElem? (i := 57) rfl))))
theorem ti_wsL_law_r1 : ∀ w ∈ wsL_law_r1, w ∈ lw_tbl := List.forall_mem_cons.mpr ⟨tq_0, List.forall_mem_cons.mpr ⟨tq_1, List.forall_mem_cons.mpr ⟨tq_2, List.forall_mem_cons.mpr ⟨tq_3, List.forall_mem_cons.mpr ⟨tq_4, List.forall_mem_cons.mpr ⟨tq_5, List.forall_mem_cons.mpr ⟨tq_6, List.forall_mem_cons.mpr ⟨tq_7, List.forall_mem_cons.mpr ⟨tq_8, List.forall_mem_cons.mpr ⟨tq_9, List.forall_mem_cons.mpr ⟨tq_10, List.forall_mem_cons.mpr ⟨tq_11, List.forall_mem_cons.mpr ⟨tq_12, List.forall_mem_cons.mpr ⟨tq_13, List.forall_mem_cons.mpr ⟨tq_14, List.forall_mem_cons.mpr ⟨tq_15, List.forall_mem_cons.mpr ⟨tq_16, List.forall_mem_cons.mpr ⟨tq_17, List.forall_mem_cons.mpr ⟨tq_18, List.forall_mem_cons.mpr ⟨tq_19, List.forall_mem_cons.mpr ⟨tq_20, List.forall_mem_cons.mpr ⟨tq_21, List.forall_mem_cons.mpr ⟨tq_22, List.forall_mem_cons.mpr ⟨tq_23, fun _ h => absurd h List.not_mem_nil⟩⟩⟩⟩⟩⟩⟩⟩⟩⟩⟩⟩⟩⟩⟩⟩⟩⟩⟩⟩⟩⟩⟩⟩
theorem ti_wsL_law_r2 : ∀ w ∈ wsL_law_r2, w ∈ lw_tbl := List.forall_mem_cons.mpr ⟨tq_24, List.forall_mem_cons.mpr ⟨tq_25, List.forall_mem_cons.mpr ⟨tq_26, List.forall_mem_cons.mpr ⟨tq_27, List.forall_mem_cons.mpr ⟨tq_28, List.forall_mem_cons.mpr ⟨tq_29, List.forall_mem_cons.mpr ⟨tq_30, List.forall_mem_cons.mpr ⟨tq_31, List.forall_mem_cons.mpr ⟨tq_32, List.forall_mem_cons.mpr ⟨tq_33, List.forall_mem_cons.mpr ⟨tq_34, List.forall_mem_cons.mpr ⟨tq_35, List.forall_mem_cons.mpr ⟨tq_36, List.forall_mem_cons.mpr ⟨tq_37, List.forall_mem_cons.mpr ⟨tq_38, List.forall_mem_cons.mpr ⟨tq_39, List.forall_mem_cons.mpr ⟨tq_40, List.forall_mem_cons.mpr ⟨tq_41, List.forall_mem_cons.mpr ⟨tq_42, List.forall_mem_cons.mpr ⟨tq_43, List.forall_mem_cons.mpr ⟨tq_44, List.forall_mem_cons.mpr ⟨tq_45, List.forall_mem_cons.mpr ⟨tq_46, List.forall_mem_cons.mpr ⟨tq_47, fun _ h => absurd h List.not_mem_nil⟩⟩⟩⟩⟩⟩⟩⟩⟩⟩⟩⟩⟩⟩⟩⟩⟩⟩⟩⟩⟩⟩⟩⟩
theorem ti_wsL_law_r3 : ∀ w ∈ wsL_law_r3, w ∈ lw_tbl := List.forall_mem_cons.mpr ⟨tq_48, List.forall_mem_cons.mpr ⟨tq_49, List.forall_mem_cons.mpr ⟨tq_50, List.forall_mem_cons.mpr ⟨tq_51, List.forall_mem_cons.mpr ⟨tq_52, List.forall_mem_cons.mpr ⟨tq_53, List.forall_mem_cons.mpr ⟨tq_54, List.forall_mem_cons.mpr ⟨tq_55, List.forall_mem_cons.mpr ⟨tq_56, List.forall_mem_cons.mpr ⟨tq_57, List.forall_mem_cons.mpr ⟨tq_58, List.forall_mem_cons.mpr ⟨tq_59, List.forall_mem_cons.mpr ⟨tq_60, List.forall_mem_cons.mpr ⟨tq_61, List.forall_mem_cons.mpr ⟨tq_62, List.forall_mem_cons.mpr ⟨tq_63, List.forall_mem_cons.mpr ⟨tq_64, List.forall_mem_cons.mpr ⟨tq_65, List.forall_mem_cons.mpr ⟨tq_66, List.forall_mem_cons.mpr ⟨tq_67, List.forall_mem_cons.mpr ⟨tq_68, List.forall_mem_cons.mpr ⟨tq_69, List.forall_mem_cons.mpr ⟨tq_70, List.forall_mem_cons.mpr ⟨tq_71, fun _ h => absurd h List.not_mem_nil⟩⟩⟩⟩⟩⟩⟩⟩⟩⟩⟩⟩⟩⟩⟩⟩⟩⟩⟩⟩⟩⟩⟩⟩
theorem ti_wsL_law_r4 : ∀ w ∈ wsL_law_r4, w ∈ lw_tbl := List.forall_mem_cons.mpr ⟨tq_72, List.forall_mem_cons.mpr ⟨tq_73, List.forall_mem_cons.mpr ⟨tq_74, List.forall_mem_cons.mpr ⟨tq_75, List.forall_mem_cons.mpr ⟨tq_76, List.forall_mem_cons.mpr ⟨tq_77, List.forall_mem_cons.mpr ⟨tq_78, List.forall_mem_cons.mpr ⟨tq_79, List.forall_mem_cons.mpr ⟨tq_80, List.forall_mem_cons.mpr ⟨tq_81, List.forall_mem_cons.mpr ⟨tq_82, List.forall_mem_cons.mpr ⟨tq_83, List.forall_mem_cons.mpr ⟨tq_84, List.forall_mem_cons.mpr ⟨tq_85, List.forall_mem_cons.mpr ⟨tq_86, List.forall_mem_cons.mpr ⟨tq_87, List.forall_mem_cons.mpr ⟨tq_88, List.forall_mem_cons.mpr ⟨tq_89, List.forall_mem_cons.mpr ⟨tq_90, List.forall_mem_cons.mpr ⟨tq_91, List.forall_mem_cons.mpr ⟨tq_92, List.forall_mem_cons.mpr ⟨tq_93, List.forall_mem_cons.mpr ⟨tq_94, List.forall_mem_cons.mpr ⟨tq_95, fun _ h => absurd h List.not_mem_nil⟩⟩⟩⟩⟩⟩⟩⟩⟩⟩⟩⟩⟩⟩⟩⟩⟩⟩⟩⟩⟩⟩⟩⟩
theorem ti_wsL_law_r5 : ∀ w ∈ wsL_law_r5, w ∈ lw_tbl := List.forall_mem_cons.mpr ⟨tq_96, List.forall_mem_cons.mpr ⟨tq_97, List.forall_mem_cons.mpr ⟨tq_98, List.forall_mem_cons.mpr ⟨tq_99, List.forall_mem_cons.mpr ⟨tq_100, List.forall_mem_cons.mpr ⟨tq_101, List.forall_mem_cons.mpr ⟨tq_102, List.forall_mem_cons.mpr ⟨tq_103, List.forall_mem_cons.mpr ⟨tq_104, List.forall_mem_cons.mpr ⟨tq_105, List.forall_mem_cons.mpr ⟨tq_106, List.forall_mem_cons.mpr ⟨tq_107, List.forall_mem_cons.mpr ⟨tq_108, List.forall_mem_cons.mpr ⟨tq_109, List.forall_mem_cons.mpr ⟨tq_110, List.forall_mem_cons.mpr ⟨tq_111, List.forall_mem_cons.mpr ⟨tq_112, List.forall_mem_cons.mpr ⟨tq_113, List.forall_mem_cons.mpr ⟨tq_114, List.forall_mem_cons.mpr ⟨tq_115, List.forall_mem_cons.mpr ⟨tq_116, List.forall_mem_cons.mpr ⟨tq_117, List.forall_mem_cons.mpr ⟨tq_118, List.forall_mem_cons.mpr ⟨tq_119, fun _ h => absurd h List.not_mem_nil⟩⟩⟩⟩⟩⟩⟩⟩⟩⟩⟩⟩⟩⟩⟩⟩⟩⟩⟩⟩⟩⟩⟩⟩
theorem ti_wsL_law_r6 : ∀ w ∈ wsL_law_r6, w ∈ lw_tbl := List.forall_mem_cons.mpr ⟨tq_120, List.forall_mem_cons.mpr ⟨tq_121, List.forall_mem_cons.mpr ⟨tq_122, List.forall_mem_cons.mpr ⟨tq_123, List.forall_mem_cons.mpr ⟨tq_124, List.forall_mem_cons.mpr ⟨tq_125, List.forall_mem_cons.mpr ⟨tq_126, List.forall_mem_cons.mpr ⟨tq_127, List.forall_mem_cons.mpr ⟨tq_128, List.forall_mem_cons.mpr ⟨tq_129, List.forall_mem_cons.mpr ⟨tq_130, List.forall_mem_cons.mpr ⟨tq_131, List.forall_mem_cons.mpr ⟨tq_132, List.forall_mem_cons.mpr ⟨tq_133, List.forall_mem_cons.mpr ⟨tq_134, List.forall_mem_cons.mpr ⟨tq_135, List.forall_mem_cons.mpr ⟨tq_136, List.forall_mem_cons.mpr ⟨tq_137, List.forall_mem_cons.mpr ⟨tq_138, List.forall_mem_cons.mpr ⟨tq_139, List.forall_mem_cons.mpr ⟨tq_140, List.forall_mem_cons.mpr ⟨tq_141, List.forall_mem_cons.mpr ⟨tq_142, List.forall_mem_cons.mpr ⟨tq_143, fun _ h => absurd h List.not_mem_nil⟩⟩⟩⟩⟩⟩⟩⟩⟩⟩⟩⟩⟩⟩⟩⟩⟩⟩⟩⟩⟩⟩⟩⟩
theorem ti_wsL_law_r7 : ∀ w ∈ wsL_law_r7, w ∈ lw_tbl := List.forall_mem_cons.mpr ⟨tq_144, List.forall_mem_cons.mpr ⟨tq_145, List.forall_mem_cons.mpr ⟨tq_146, List.forall_mem_cons.mpr ⟨tq_147, List.forall_mem_cons.mpr ⟨tq_148, List.forall_mem_cons.mpr ⟨tq_149, List.forall_mem_cons.mpr ⟨tq_150, List.forall_mem_cons.mpr ⟨tq_151, List.forall_mem_cons.mpr ⟨tq_152, List.forall_mem_cons.mpr ⟨tq_153, List.forall_mem_cons.mpr ⟨tq_154, List.forall_mem_cons.mpr ⟨tq_155, List.forall_mem_cons.mpr ⟨tq_156, List.forall_mem_cons.mpr ⟨tq_157, List.forall_mem_cons.mpr ⟨tq_158, List.forall_mem_cons.mpr ⟨tq_159, List.forall_mem_cons.mpr ⟨tq_160, List.forall_mem_cons.mpr ⟨tq_161, List.forall_mem_cons.mpr ⟨tq_162, List.forall_mem_cons.mpr ⟨tq_163, List.forall_mem_cons.mpr ⟨tq_164, List.forall_mem_cons.mpr ⟨tq_165, List.forall_mem_cons.mpr ⟨tq_166, List.forall_mem_cons.mpr ⟨tq_167, fun _ h => absurd h List.not_mem_nil⟩⟩⟩⟩⟩⟩⟩⟩⟩⟩⟩⟩⟩⟩⟩⟩⟩⟩⟩⟩⟩⟩⟩⟩
theorem ti_wsL_law_r8 : ∀ w ∈ wsL_law_r8, w ∈ lw_tbl := List.forall_mem_cons.mpr ⟨tq_168, List.forall_mem_cons.mpr ⟨tq_169, List.forall_mem_cons.mpr ⟨tq_170, List.forall_mem_cons.mpr ⟨tq_171, List.forall_mem_cons.mpr ⟨tq_172, List.forall_mem_cons.mpr ⟨tq_173, List.forall_mem_cons.mpr ⟨tq_174, List.forall_mem_cons.mpr ⟨tq_175, List.forall_mem_cons.mpr ⟨tq_176, List.forall_mem_cons.mpr ⟨tq_177, List.forall_mem_cons.mpr ⟨tq_178, List.forall_mem_cons.mpr ⟨tq_179, List.forall_mem_cons.mpr ⟨tq_180, List.forall_mem_cons.mpr ⟨tq_181, List.forall_mem_cons.mpr ⟨tq_182, List.forall_mem_cons.mpr ⟨tq_183, List.forall_mem_cons.mpr ⟨tq_184, List.forall_mem_cons.mpr ⟨tq_185, List.forall_mem_cons.mpr ⟨tq_186, List.forall_mem_cons.mpr ⟨tq_187, List.forall_mem_cons.mpr ⟨tq_188, List.forall_mem_cons.mpr ⟨tq_189, List.forall_mem_cons.mpr ⟨tq_190, List.forall_mem_cons.mpr ⟨tq_191, fun _ h => absurd h List.not_mem_nil⟩⟩⟩⟩⟩⟩⟩⟩⟩⟩⟩⟩⟩⟩⟩⟩⟩⟩⟩⟩⟩⟩⟩⟩
theorem ti_wsL_law_r9 : ∀ w ∈ wsL_law_r9, w ∈ lw_tbl := List.forall_mem_cons.mpr ⟨tq_192, List.forall_mem_cons.mpr ⟨tq_193, List.forall_mem_cons.mpr ⟨tq_194, List.forall_mem_cons.mpr ⟨tq_195, List.forall_mem_cons.mpr ⟨tq_196, List.forall_mem_cons.mpr ⟨tq_197, List.forall_mem_cons.mpr ⟨tq_198, List.forall_mem_cons.mpr ⟨tq_199, List.forall_mem_cons.mpr ⟨tq_200, List.forall_mem_cons.mpr ⟨tq_201, List.forall_mem_cons.mpr ⟨tq_202, List.forall_mem_cons.mpr ⟨tq_203, List.forall_mem_cons.mpr ⟨tq_204, List.forall_mem_cons.mpr ⟨tq_205, List.forall_mem_cons.mpr ⟨tq_206, List.forall_mem_cons.mpr ⟨tq_207, List.forall_mem_cons.mpr ⟨tq_208, List.forall_mem_cons.mpr ⟨tq_209, List.forall_mem_cons.mpr ⟨tq_210, List.forall_mem_cons.mpr ⟨tq_211, List.forall_mem_cons.mpr ⟨tq_212, List.forall_mem_cons.mpr ⟨tq_213, List.forall_mem_cons.mpr ⟨tq_214, List.forall_mem_cons.mpr ⟨tq_215, fun _ h => absurd h List.not_mem_nil⟩⟩⟩⟩⟩⟩⟩⟩⟩⟩⟩⟩⟩⟩⟩⟩⟩⟩⟩⟩⟩⟩⟩⟩
theorem ti_wsL_law_r10 : ∀ w ∈ wsL_law_r10, w ∈ lw_tbl := List.forall_mem_cons.mpr ⟨tq_216, List.forall_mem_cons.mpr ⟨tq_217, List.forall_mem_cons.mpr ⟨tq_218, List.forall_mem_cons.mpr ⟨tq_219, List.forall_mem_cons.mpr ⟨tq_220, List.forall_mem_cons.mpr ⟨tq_221, List.forall_mem_cons.mpr ⟨tq_222, List.forall_mem_cons.mpr ⟨tq_223, List.forall_mem_cons.mpr ⟨tq_224, List.forall_mem_cons.mpr ⟨tq_225, List.forall_mem_cons.mpr ⟨tq_226, List.forall_mem_cons.mpr ⟨tq_227, List.forall_mem_cons.mpr ⟨tq_228, List.forall_mem_cons.mpr ⟨tq_229, List.forall_mem_cons.mpr ⟨tq_230, List.forall_mem_cons.mpr ⟨tq_231, List.forall_mem_cons.mpr ⟨tq_232, List.forall_mem_cons.mpr ⟨tq_233, List.forall_mem_cons.mpr ⟨tq_234, List.forall_mem_cons.mpr ⟨tq_235, List.forall_mem_cons.mpr ⟨tq_236, List.forall_mem_cons.mpr ⟨tq_237, List.forall_mem_cons.mpr ⟨tq_238, List.forall_mem_cons.mpr ⟨tq_239, fun _ h => absurd h List.not_mem_nil⟩⟩⟩⟩⟩⟩⟩⟩⟩⟩⟩⟩⟩⟩⟩⟩⟩⟩⟩⟩⟩⟩⟩⟩
theorem ti_wsL_law_r11 : ∀ w ∈ wsL_law_r11, w ∈ lw_tbl := List.forall_mem_cons.mpr ⟨tq_240, List.forall_mem_cons.mpr ⟨tq_241, List.forall_mem_cons.mpr ⟨tq_242, List.forall_mem_cons.mpr ⟨tq_243, List.forall_mem_cons.mpr ⟨tq_244, List.forall_mem_cons.mpr ⟨tq_245, List.forall_mem_cons.mpr ⟨tq_246, List.forall_mem_cons.mpr ⟨tq_247, List.forall_mem_cons.mpr ⟨tq_248, List.forall_mem_cons.mpr ⟨tq_249, List.forall_mem_cons.mpr ⟨tq_250, List.forall_mem_cons.mpr ⟨tq_251, List.forall_mem_cons.mpr ⟨tq_252, List.forall_mem_cons.mpr ⟨tq_253, List.forall_mem_cons.mpr ⟨tq_254, List.forall_mem_cons.mpr ⟨tq_255, List.forall_mem_cons.mpr ⟨tq_256, List.forall_mem_cons.mpr ⟨tq_257, List.forall_mem_cons.mpr ⟨tq_258, List.forall_mem_cons.mpr ⟨tq_259, List.forall_mem_cons.mpr ⟨tq_260, List.forall_mem_cons.mpr ⟨tq_261, List.forall_mem_cons.mpr ⟨tq_262, List.forall_mem_cons.mpr ⟨tq_263, fun _ h => absurd h List.not_mem_nil⟩⟩⟩⟩⟩⟩⟩⟩⟩⟩⟩⟩⟩⟩⟩⟩⟩⟩⟩⟩⟩⟩⟩⟩
theorem ti_wsL_law_r12 : ∀ w ∈ wsL_law_r12, w ∈ lw_tbl := List.forall_mem_cons.mpr ⟨tq_264, List.forall_mem_cons.mpr ⟨tq_265, List.forall_mem_cons.mpr ⟨tq_266, List.forall_mem_cons.mpr ⟨tq_267, List.forall_mem_cons.mpr ⟨tq_268, List.forall_mem_cons.mpr ⟨tq_269, List.forall_mem_cons.mpr ⟨tq_270, List.forall_mem_cons.mpr ⟨tq_271, List.forall_mem_cons.mpr ⟨tq_272, List.forall_mem_cons.mpr ⟨tq_273, List.forall_mem_cons.mpr ⟨tq_274, List.forall_mem_cons.mpr ⟨tq_275, List.forall_mem_cons.mpr ⟨tq_276, List.forall_mem_cons.mpr ⟨tq_277, List.forall_mem_cons.mpr ⟨tq_278, List.forall_mem_cons.mpr ⟨tq_279, List.forall_mem_cons.mpr ⟨tq_280, List.forall_mem_cons.mpr ⟨tq_281, List.forall_mem_cons.mpr ⟨tq_282, List.forall_mem_cons.mpr ⟨tq_283, List.forall_mem_cons.mpr ⟨tq_284, List.forall_mem_cons.mpr ⟨tq_285, List.forall_mem_cons.mpr ⟨tq_286, List.forall_mem_cons.mpr ⟨tq_287, fun _ h => absurd h List.not_mem_nil⟩⟩⟩⟩⟩⟩⟩⟩⟩⟩⟩⟩⟩⟩⟩⟩⟩⟩⟩⟩⟩⟩⟩⟩
theorem ti_wsL_law_r13 : ∀ w ∈ wsL_law_r13, w ∈ lw_tbl := List.forall_mem_cons.mpr ⟨tq_288, List.forall_mem_cons.mpr ⟨tq_289, List.forall_mem_cons.mpr ⟨tq_290, List.forall_mem_cons.mpr ⟨tq_291, List.forall_mem_cons.mpr ⟨tq_292, List.forall_mem_cons.mpr ⟨tq_293, List.forall_mem_cons.mpr ⟨tq_294, List.forall_mem_cons.mpr ⟨tq_295, List.forall_mem_cons.mpr ⟨tq_296, List.forall_mem_cons.mpr ⟨tq_297, List.forall_mem_cons.mpr ⟨tq_298, List.forall_mem_cons.mpr ⟨tq_299, List.forall_mem_cons.mpr ⟨tq_300, List.forall_mem_cons.mpr ⟨tq_301, List.forall_mem_cons.mpr ⟨tq_302, List.forall_mem_cons.mpr ⟨tq_303, List.forall_mem_cons.mpr ⟨tq_304, List.forall_mem_cons.mpr ⟨tq_305, List.forall_mem_cons.mpr ⟨tq_306, List.forall_mem_cons.mpr ⟨tq_307, List.forall_mem_cons.mpr ⟨tq_308, List.forall_mem_cons.mpr ⟨tq_309, List.forall_mem_cons.mpr ⟨tq_310, List.forall_mem_cons.mpr ⟨tq_311, fun _ h => absurd h List.not_mem_nil⟩⟩⟩⟩⟩⟩⟩⟩⟩⟩⟩⟩⟩⟩⟩⟩⟩⟩⟩⟩⟩⟩⟩⟩
theorem ti_wsL_law_r14 : ∀ w ∈ wsL_law_r14, w ∈ lw_tbl := List.forall_mem_cons.mpr ⟨tq_312, List.forall_mem_cons.mpr ⟨tq_313, List.forall_mem_cons.mpr ⟨tq_314, List.forall_mem_cons.mpr ⟨tq_315, List.forall_mem_cons.mpr ⟨tq_316, List.forall_mem_cons.mpr ⟨tq_317, List.forall_mem_cons.mpr ⟨tq_318, List.forall_mem_cons.mpr ⟨tq_319, List.forall_mem_cons.mpr ⟨tq_320, List.forall_mem_cons.mpr ⟨tq_321, List.forall_mem_cons.mpr ⟨tq_322, List.forall_mem_cons.mpr ⟨tq_323, List.forall_mem_cons.mpr ⟨tq_324, List.forall_mem_cons.mpr ⟨tq_325, List.forall_mem_cons.mpr ⟨tq_326, List.forall_mem_cons.mpr ⟨tq_327, List.forall_mem_cons.mpr ⟨tq_328, List.forall_mem_cons.mpr ⟨tq_329, List.forall_mem_cons.mpr ⟨tq_330, List.forall_mem_cons.mpr ⟨tq_331, List.forall_mem_cons.mpr ⟨tq_332, List.forall_mem_cons.mpr ⟨tq_333, List.forall_mem_cons.mpr ⟨tq_334, List.forall_mem_cons.mpr ⟨tq_335, fun _ h => absurd h List.not_mem_nil⟩⟩⟩⟩⟩⟩⟩⟩⟩⟩⟩⟩⟩⟩⟩⟩⟩⟩⟩⟩⟩⟩⟩⟩
theorem ti_wsL_law_r15 : ∀ w ∈ wsL_law_r15, w ∈ lw_tbl := List.forall_mem_cons.mpr ⟨tq_336, List.forall_mem_cons.mpr ⟨tq_337, List.forall_mem_cons.mpr ⟨tq_338, List.forall_mem_cons.mpr ⟨tq_339, List.forall_mem_cons.mpr ⟨tq_340, List.forall_mem_cons.mpr ⟨tq_341, List.forall_mem_cons.mpr ⟨tq_342, List.forall_mem_cons.mpr ⟨tq_343, List.forall_mem_cons.mpr ⟨tq_344, List.forall_mem_cons.mpr ⟨tq_345, List.forall_mem_cons.mpr ⟨tq_346, List.forall_mem_cons.mpr ⟨tq_347, List.forall_mem_cons.mpr ⟨tq_348, List.forall_mem_cons.mpr ⟨tq_349, List.forall_mem_cons.mpr ⟨tq_350, List.forall_mem_cons.mpr ⟨tq_351, List.forall_mem_cons.mpr ⟨tq_352, List.forall_mem_cons.mpr ⟨tq_353, List.forall_mem_cons.mpr ⟨tq_354, List.forall_mem_cons.mpr ⟨tq_355, List.forall_mem_cons.mpr ⟨tq_356, List.forall_mem_cons.mpr ⟨tq_357, List.forall_mem_cons.mpr ⟨tq_358, List.forall_mem_cons.mpr ⟨tq_359, fun _ h => absurd h List.not_mem_nil⟩⟩⟩⟩⟩⟩⟩⟩⟩⟩⟩⟩⟩⟩⟩⟩⟩⟩⟩⟩⟩⟩⟩⟩
theorem ti_wsL_law_r16 : ∀ w ∈ wsL_law_r16, w ∈ lw_tbl := List.forall_mem_cons.mpr ⟨tq_360, List.forall_mem_cons.mpr ⟨tq_361, List.forall_mem_cons.mpr ⟨tq_362, List.forall_mem_cons.mpr ⟨tq_363, List.forall_mem_cons.mpr ⟨tq_364, List.forall_mem_cons.mpr ⟨tq_365, List.forall_mem_cons.mpr ⟨tq_366, List.forall_mem_cons.mpr ⟨tq_367, List.forall_mem_cons.mpr ⟨tq_368, List.forall_mem_cons.mpr ⟨tq_369, List.forall_mem_cons.mpr ⟨tq_370, List.forall_mem_cons.mpr ⟨tq_371, List.forall_mem_cons.mpr ⟨tq_372, List.forall_mem_cons.mpr ⟨tq_373, List.forall_mem_cons.mpr ⟨tq_374, List.forall_mem_cons.mpr ⟨tq_375, List.forall_mem_cons.mpr ⟨tq_376, List.forall_mem_cons.mpr ⟨tq_377, List.forall_mem_cons.mpr ⟨tq_378, List.forall_mem_cons.mpr ⟨tq_379, List.forall_mem_cons.mpr ⟨tq_380, List.forall_mem_cons.mpr ⟨tq_381, List.forall_mem_cons.mpr ⟨tq_382, List.forall_mem_cons.mpr ⟨tq_383, fun _ h => absurd h List.not_mem_nil⟩⟩⟩⟩⟩⟩⟩⟩⟩⟩⟩⟩⟩⟩⟩⟩⟩⟩⟩⟩⟩⟩⟩⟩
theorem ti_wsL_law_r17 : ∀ w ∈ wsL_law_r17, w ∈ lw_tbl := List.forall_mem_cons.mpr ⟨tq_384, List.forall_mem_cons.mpr ⟨tq_385, List.forall_mem_cons.mpr ⟨tq_386, List.forall_mem_cons.mpr ⟨tq_387, List.forall_mem_cons.mpr ⟨tq_388, List.forall_mem_cons.mpr ⟨tq_389, List.forall_mem_cons.mpr ⟨tq_390, List.forall_mem_cons.mpr ⟨tq_391, List.forall_mem_cons.mpr ⟨tq_392, List.forall_mem_cons.mpr ⟨tq_393, List.forall_mem_cons.mpr ⟨tq_394, List.forall_mem_cons.mpr ⟨tq_395, List.forall_mem_cons.mpr ⟨tq_396, List.forall_mem_cons.mpr ⟨tq_397, List.forall_mem_cons.mpr ⟨tq_398, List.forall_mem_cons.mpr ⟨tq_399, List.forall_mem_cons.mpr ⟨tq_400, List.forall_mem_cons.mpr ⟨tq_401, List.forall_mem_cons.mpr ⟨tq_402, List.forall_mem_cons.mpr ⟨tq_403, List.forall_mem_cons.mpr ⟨tq_404, List.forall_mem_cons.mpr ⟨tq_405, List.forall_mem_cons.mpr ⟨tq_406, List.forall_mem_cons.mpr ⟨tq_407, fun _ h => absurd h List.not_mem_nil⟩⟩⟩⟩⟩⟩⟩⟩⟩⟩⟩⟩⟩⟩⟩⟩⟩⟩⟩⟩⟩⟩⟩⟩
theorem ti_wsL_law_r18 : ∀ w ∈ wsL_law_r18, w ∈ lw_tbl := List.forall_mem_cons.mpr ⟨tq_408, List.forall_mem_cons.mpr ⟨tq_409, List.forall_mem_cons.mpr ⟨tq_410, List.forall_mem_cons.mpr ⟨tq_411, List.forall_mem_cons.mpr ⟨tq_412, List.forall_mem_cons.mpr ⟨tq_413, List.forall_mem_cons.mpr ⟨tq_414, List.forall_mem_cons.mpr ⟨tq_415, List.forall_mem_cons.mpr ⟨tq_416, List.forall_mem_cons.mpr ⟨tq_417, List.forall_mem_cons.mpr ⟨tq_418, List.forall_mem_cons.mpr ⟨tq_419, List.forall_mem_cons.mpr ⟨tq_420, List.forall_mem_cons.mpr ⟨tq_421, List.forall_mem_cons.mpr ⟨tq_422, List.forall_mem_cons.mpr ⟨tq_423, List.forall_mem_cons.mpr ⟨tq_424, List.forall_mem_cons.mpr ⟨tq_425, List.forall_mem_cons.mpr ⟨tq_426, List.forall_mem_cons.mpr ⟨tq_427, List.forall_mem_cons.mpr ⟨tq_428, List.forall_mem_cons.mpr ⟨tq_429, List.forall_mem_cons.mpr ⟨tq_430, List.forall_mem_cons.mpr ⟨tq_431, fun _ h => absurd h List.not_mem_nil⟩⟩⟩⟩⟩⟩⟩⟩⟩⟩⟩⟩⟩⟩⟩⟩⟩⟩⟩⟩⟩⟩⟩⟩
theorem ti_wsL_law_r19 : ∀ w ∈ wsL_law_r19, w ∈ lw_tbl := List.forall_mem_cons.mpr ⟨tq_432, List.forall_mem_cons.mpr ⟨tq_433, List.forall_mem_cons.mpr ⟨tq_434, List.forall_mem_cons.mpr ⟨tq_435, List.forall_mem_cons.mpr ⟨tq_436, List.forall_mem_cons.mpr ⟨tq_437, List.forall_mem_cons.mpr ⟨tq_438, List.forall_mem_cons.mpr ⟨tq_439, List.forall_mem_cons.mpr ⟨tq_440, List.forall_mem_cons.mpr ⟨tq_441, List.forall_mem_cons.mpr ⟨tq_442, List.forall_mem_cons.mpr ⟨tq_443, List.forall_mem_cons.mpr ⟨tq_444, List.forall_mem_cons.mpr ⟨tq_445, List.forall_mem_cons.mpr ⟨tq_446, List.forall_mem_cons.mpr ⟨tq_447, List.forall_mem_cons.mpr ⟨tq_448, List.forall_mem_cons.mpr ⟨tq_449, List.forall_mem_cons.mpr ⟨tq_450, List.forall_mem_cons.mpr ⟨tq_451, List.forall_mem_cons.mpr ⟨tq_452, List.forall_mem_cons.mpr ⟨tq_453, List.forall_mem_cons.mpr ⟨tq_454, List.forall_mem_cons.mpr ⟨tq_455, fun _ h => absurd h List.not_mem_nil⟩⟩⟩⟩⟩⟩⟩⟩⟩⟩⟩⟩⟩⟩⟩⟩⟩⟩⟩⟩⟩⟩⟩⟩
theorem ti_wsL_law_r20 : ∀ w ∈ wsL_law_r20, w ∈ lw_tbl := List.forall_mem_cons.mpr ⟨tq_456, List.forall_mem_cons.mpr ⟨tq_457, List.forall_mem_cons.mpr ⟨tq_458, List.forall_mem_cons.mpr ⟨tq_459, List.forall_mem_cons.mpr ⟨tq_460, List.forall_mem_cons.mpr ⟨tq_461, List.forall_mem_cons.mpr ⟨tq_462, List.forall_mem_cons.mpr ⟨tq_463, List.forall_mem_cons.mpr ⟨tq_464, List.forall_mem_cons.mpr ⟨tq_465, List.forall_mem_cons.mpr ⟨tq_466, List.forall_mem_cons.mpr ⟨tq_467, List.forall_mem_cons.mpr ⟨tq_468, List.forall_mem_cons.mpr ⟨tq_469, List.forall_mem_cons.mpr ⟨tq_470, List.forall_mem_cons.mpr ⟨tq_471, List.forall_mem_cons.mpr ⟨tq_472, List.forall_mem_cons.mpr ⟨tq_473, List.forall_mem_cons.mpr ⟨tq_474, List.forall_mem_cons.mpr ⟨tq_475, List.forall_mem_cons.mpr ⟨tq_476, List.forall_mem_cons.mpr ⟨tq_477, List.forall_mem_cons.mpr ⟨tq_478, List.forall_mem_cons.mpr ⟨tq_479, fun _ h => absurd h List.not_mem_nil⟩⟩⟩⟩⟩⟩⟩⟩⟩⟩⟩⟩⟩⟩⟩⟩⟩⟩⟩⟩⟩⟩⟩⟩
theorem ti_wsL_law_r21 : ∀ w ∈ wsL_law_r21, w ∈ lw_tbl := List.forall_mem_cons.mpr ⟨tq_480, List.forall_mem_cons.mpr ⟨tq_481, List.forall_mem_cons.mpr ⟨tq_482, List.forall_mem_cons.mpr ⟨tq_483, List.forall_mem_cons.mpr ⟨tq_484, List.forall_mem_cons.mpr ⟨tq_485, List.forall_mem_cons.mpr ⟨tq_486, List.forall_mem_cons.mpr ⟨tq_487, List.forall_mem_cons.mpr ⟨tq_488, List.forall_mem_cons.mpr ⟨tq_489, List.forall_mem_cons.mpr ⟨tq_490, List.forall_mem_cons.mpr ⟨tq_491, List.forall_mem_cons.mpr ⟨tq_492, List.forall_mem_cons.mpr ⟨tq_493, List.forall_mem_cons.mpr ⟨tq_494, List.forall_mem_cons.mpr ⟨tq_495, List.forall_mem_cons.mpr ⟨tq_496, List.forall_mem_cons.mpr ⟨tq_497, List.forall_mem_cons.mpr ⟨tq_498, List.forall_mem_cons.mpr ⟨tq_499, List.forall_mem_cons.mpr ⟨tq_500, List.forall_mem_cons.mpr ⟨tq_501, List.forall_mem_cons.mpr ⟨tq_502, List.forall_mem_cons.mpr ⟨tq_503, fun _ h => absurd h List.not_mem_nil⟩⟩⟩⟩⟩⟩⟩⟩⟩⟩⟩⟩⟩⟩⟩⟩⟩⟩⟩⟩⟩⟩⟩⟩
theorem ti_wsL_law_r22 : ∀ w ∈ wsL_law_r22, w ∈ lw_tbl := List.forall_mem_cons.mpr ⟨tq_504, List.forall_mem_cons.mpr ⟨tq_505, List.forall_mem_cons.mpr ⟨tq_506, List.forall_mem_cons.mpr ⟨tq_507, List.forall_mem_cons.mpr ⟨tq_508, List.forall_mem_cons.mpr ⟨tq_509, List.forall_mem_cons.mpr ⟨tq_510, List.forall_mem_cons.mpr ⟨tq_511, List.forall_mem_cons.mpr ⟨tq_512, List.forall_mem_cons.mpr ⟨tq_513, List.forall_mem_cons.mpr ⟨tq_514, List.forall_mem_cons.mpr ⟨tq_515, List.forall_mem_cons.mpr ⟨tq_516, List.forall_mem_cons.mpr ⟨tq_517, List.forall_mem_cons.mpr ⟨tq_518, List.forall_mem_cons.mpr ⟨tq_519, List.forall_mem_cons.mpr ⟨tq_520, List.forall_mem_cons.mpr ⟨tq_521, List.forall_mem_cons.mpr ⟨tq_522, List.forall_mem_cons.mpr ⟨tq_523, List.forall_mem_cons.mpr ⟨tq_524, List.forall_mem_cons.mpr ⟨tq_525, List.forall_mem_cons.mpr ⟨tq_526, List.forall_mem_cons.mpr ⟨tq_527, fun _ h => absurd h List.not_mem_nil⟩⟩⟩⟩⟩⟩⟩⟩⟩⟩⟩⟩⟩⟩⟩⟩⟩⟩⟩⟩⟩⟩⟩⟩
theorem ti_wsL_law_r23 : ∀ w ∈ wsL_law_r23, w ∈ lw_tbl := List.forall_mem_cons.mpr ⟨tq_528, List.forall_mem_cons.mpr ⟨tq_529, List.forall_mem_cons.mpr ⟨tq_530, List.forall_mem_cons.mpr ⟨tq_531, List.forall_mem_cons.mpr ⟨tq_532, List.forall_mem_cons.mpr ⟨tq_533, List.forall_mem_cons.mpr ⟨tq_534, List.forall_mem_cons.mpr ⟨tq_535, List.forall_mem_cons.mpr ⟨tq_536, List.forall_mem_cons.mpr ⟨tq_537, List.forall_mem_cons.mpr ⟨tq_538, List.forall_mem_cons.mpr ⟨tq_539, List.forall_mem_cons.mpr ⟨tq_540, List.forall_mem_cons.mpr ⟨tq_541, List.forall_mem_cons.mpr ⟨tq_542, List.forall_mem_cons.mpr ⟨tq_543, List.forall_mem_cons.mpr ⟨tq_544, List.forall_mem_cons.mpr ⟨tq_545, List.forall_mem_cons.mpr ⟨tq_546, List.forall_mem_cons.mpr ⟨tq_547, List.forall_mem_cons.mpr ⟨tq_548, List.forall_mem_cons.mpr ⟨tq_549, List.forall_mem_cons.mpr ⟨tq_550, List.forall_mem_cons.mpr ⟨tq_551, fun _ h => absurd h List.not_mem_nil⟩⟩⟩⟩⟩⟩⟩⟩⟩⟩⟩⟩⟩⟩⟩⟩⟩⟩⟩⟩⟩⟩⟩⟩
theorem ti_wsL_law_r24 : ∀ w ∈ wsL_law_r24, w ∈ lw_tbl := List.forall_mem_cons.mpr ⟨tq_552, List.forall_mem_cons.mpr ⟨tq_553, List.forall_mem_cons.mpr ⟨tq_554, List.forall_mem_cons.mpr ⟨tq_555, List.forall_mem_cons.mpr ⟨tq_556, List.forall_mem_cons.mpr ⟨tq_557, List.forall_mem_cons.mpr ⟨tq_558, List.forall_mem_cons.mpr ⟨tq_559, List.forall_mem_cons.mpr ⟨tq_560, List.forall_mem_cons.mpr ⟨tq_561, List.forall_mem_cons.mpr ⟨tq_562, List.forall_mem_cons.mpr ⟨tq_563, List.forall_mem_cons.mpr ⟨tq_564, List.forall_mem_cons.mpr ⟨tq_565, List.forall_mem_cons.mpr ⟨tq_566, List.forall_mem_cons.mpr ⟨tq_567, List.forall_mem_cons.mpr ⟨tq_568, List.forall_mem_cons.mpr ⟨tq_569, List.forall_mem_cons.mpr ⟨tq_570, List.forall_mem_cons.mpr ⟨tq_571, List.forall_mem_cons.mpr ⟨tq_572, List.forall_mem_cons.mpr ⟨tq_573, List.forall_mem_cons.mpr ⟨tq_574, List.forall_mem_cons.mpr ⟨tq_575, fun _ h => absurd h List.not_mem_nil⟩⟩⟩⟩⟩⟩⟩⟩⟩⟩⟩⟩⟩⟩⟩⟩⟩⟩⟩⟩⟩⟩⟩⟩
theorem ti_wsL_law_r25 : ∀ w ∈ wsL_law_r25, w ∈ lw_tbl := List.forall_mem_cons.mpr ⟨tq_576, List.forall_mem_cons.mpr ⟨tq_577, List.forall_mem_cons.mpr ⟨tq_578, List.forall_mem_cons.mpr ⟨tq_579, List.forall_mem_cons.mpr ⟨tq_580, List.forall_mem_cons.mpr ⟨tq_581, List.forall_mem_cons.mpr ⟨tq_582, List.forall_mem_cons.mpr ⟨tq_583, List.forall_mem_cons.mpr ⟨tq_584, List.forall_mem_cons.mpr ⟨tq_585, List.forall_mem_cons.mpr ⟨tq_586, List.forall_mem_cons.mpr ⟨tq_587, List.forall_mem_cons.mpr ⟨tq_588, List.forall_mem_cons.mpr ⟨tq_589, List.forall_mem_cons.mpr ⟨tq_590, List.forall_mem_cons.mpr ⟨tq_591, List.forall_mem_cons.mpr ⟨tq_592, List.forall_mem_cons.mpr ⟨tq_593, List.forall_mem_cons.mpr ⟨tq_594, List.forall_mem_cons.mpr ⟨tq_595, List.forall_mem_cons.mpr ⟨tq_596, List.forall_mem_cons.mpr ⟨tq_597, List.forall_mem_cons.mpr ⟨tq_598, List.forall_mem_cons.mpr ⟨tq_599, fun _ h => absurd h List.not_mem_nil⟩⟩⟩⟩⟩⟩⟩⟩⟩⟩⟩⟩⟩⟩⟩⟩⟩⟩⟩⟩⟩⟩⟩⟩
theorem ti_wsL_law_r26 : ∀ w ∈ wsL_law_r26, w ∈ lw_tbl := List.forall_mem_cons.mpr ⟨tq_600, List.forall_mem_cons.mpr ⟨tq_601, List.forall_mem_cons.mpr ⟨tq_602, List.forall_mem_cons.mpr ⟨tq_603, List.forall_mem_cons.mpr ⟨tq_604, List.forall_mem_cons.mpr ⟨tq_605, List.forall_mem_cons.mpr ⟨tq_606, List.forall_mem_cons.mpr ⟨tq_607, List.forall_mem_cons.mpr ⟨tq_608, List.forall_mem_cons.mpr ⟨tq_609, List.forall_mem_cons.mpr ⟨tq_610, List.forall_mem_cons.mpr ⟨tq_611, List.forall_mem_cons.mpr ⟨tq_612, List.forall_mem_cons.mpr ⟨tq_613, List.forall_mem_cons.mpr ⟨tq_614, List.forall_mem_cons.mpr ⟨tq_615, List.forall_mem_cons.mpr ⟨tq_616, List.forall_mem_cons.mpr ⟨tq_617, List.forall_mem_cons.mpr ⟨tq_618, List.forall_mem_cons.mpr ⟨tq_619, List.forall_mem_cons.mpr ⟨tq_620, List.forall_mem_cons.mpr ⟨tq_621, List.forall_mem_cons.mpr ⟨tq_622, List.forall_mem_cons.mpr ⟨tq_623, fun _ h => absurd h List.not_mem_nil⟩⟩⟩⟩⟩⟩⟩⟩⟩⟩⟩⟩⟩⟩⟩⟩⟩⟩⟩⟩⟩⟩⟩⟩
theorem ti_wsL_law_r27 : ∀ w ∈ wsL_law_r27, w ∈ lw_tbl := List.forall_mem_cons.mpr ⟨tq_624, List.forall_mem_cons.mpr ⟨tq_625, List.forall_mem_cons.mpr ⟨tq_626, List.forall_mem_cons.mpr ⟨tq_627, List.forall_mem_cons.mpr ⟨tq_628, List.forall_mem_cons.mpr ⟨tq_629, List.forall_mem_cons.mpr ⟨tq_630, List.forall_mem_cons.mpr ⟨tq_631, List.forall_mem_cons.mpr ⟨tq_632, List.forall_mem_cons.mpr ⟨tq_633, List.forall_mem_cons.mpr ⟨tq_634, List.forall_mem_cons.mpr ⟨tq_635, List.forall_mem_cons.mpr ⟨tq_636, List.forall_mem_cons.mpr ⟨tq_637, List.forall_mem_cons.mpr ⟨tq_638, List.forall_mem_cons.mpr ⟨tq_639, List.forall_mem_cons.mpr ⟨tq_640, List.forall_mem_cons.mpr ⟨tq_641, List.forall_mem_cons.mpr ⟨tq_642, List.forall_mem_cons.mpr ⟨tq_643, List.forall_mem_cons.mpr ⟨tq_644, List.forall_mem_cons.mpr ⟨tq_645, List.forall_mem_cons.mpr ⟨tq_646, List.forall_mem_cons.mpr ⟨tq_647, fun _ h => absurd h List.not_mem_nil⟩⟩⟩⟩⟩⟩⟩⟩⟩⟩⟩⟩⟩⟩⟩⟩⟩⟩⟩⟩⟩⟩⟩⟩
theorem ti_wsL_law_r28 : ∀ w ∈ wsL_law_r28, w ∈ lw_tbl := List.forall_mem_cons.mpr ⟨tq_648, List.forall_mem_cons.mpr ⟨tq_649, List.forall_mem_cons.mpr ⟨tq_650, List.forall_mem_cons.mpr ⟨tq_651, List.forall_mem_cons.mpr ⟨tq_652, List.forall_mem_cons.mpr ⟨tq_653, List.forall_mem_cons.mpr ⟨tq_654, List.forall_mem_cons.mpr ⟨tq_655, List.forall_mem_cons.mpr ⟨tq_656, List.forall_mem_cons.mpr ⟨tq_657, List.forall_mem_cons.mpr ⟨tq_658, List.forall_mem_cons.mpr ⟨tq_659, List.forall_mem_cons.mpr ⟨tq_660, List.forall_mem_cons.mpr ⟨tq_661, List.forall_mem_cons.mpr ⟨tq_662, List.forall_mem_cons.mpr ⟨tq_663, List.forall_mem_cons.mpr ⟨tq_664, List.forall_mem_cons.mpr ⟨tq_665, List.forall_mem_cons.mpr ⟨tq_666, List.forall_mem_cons.mpr ⟨tq_667, List.forall_mem_cons.mpr ⟨tq_668, List.forall_mem_cons.mpr ⟨tq_669, List.forall_mem_cons.mpr ⟨tq_670, List.forall_mem_cons.mpr ⟨tq_671, fun _ h => absurd h List.not_mem_nil⟩⟩⟩⟩⟩⟩⟩⟩⟩⟩⟩⟩⟩⟩⟩⟩⟩⟩⟩⟩⟩⟩⟩⟩
theorem ti_wsL_law_r29 : ∀ w ∈ wsL_law_r29, w ∈ lw_tbl := List.forall_mem_cons.mpr ⟨tq_672, fun _ h => absurd h List.not_mem_nil⟩
theorem ti_X0 : ∀ w ∈ wsX00, w ∈ lw_tbl := by decide +kernel
theorem ti_X1 : ∀ w ∈ wsX10, w ∈ lw_tbl := by decide +kernel
theorem ti_X2 : ∀ w ∈ wsX20, w ∈ lw_tbl := by decide +kernel
theorem ti_X3 : ∀ w ∈ wsX30, w ∈ lw_tbl := by decide +kernel
theorem ti_X4 : ∀ w ∈ wsX40, w ∈ lw_tbl := by decide +kernel
theorem ti_X5 : ∀ w ∈ wsX50, w ∈ lw_tbl := by decide +kernel
theorem ti_X6 : ∀ w ∈ wsX60, w ∈ lw_tbl := by decide +kernel
theorem app_in {p q : List Cond} (h1 : ∀ w ∈ p, w ∈ lw_tbl) (h2 : ∀ w ∈ q, w ∈ lw_tbl) : ∀ w ∈ p ++ q, w ∈ lw_tbl := fun w hw => (List.mem_append.mp hw).elim (h1 w) (h2 w)
theorem wA_in : ∀ w ∈ wA, w ∈ lw_tbl := app_in (app_in (app_in (app_in (app_in (app_in (app_in (app_in (app_in ti_wsL_law_r1 (app_in ti_wsL_law_r2 (app_in ti_wsL_law_r3 (app_in ti_wsL_law_r4 (app_in ti_wsL_law_r5 (app_in ti_wsL_law_r6 (app_in ti_wsL_law_r7 (app_in ti_wsL_law_r8 (app_in ti_wsL_law_r9 (app_in ti_wsL_law_r10 (app_in ti_wsL_law_r11 (app_in ti_wsL_law_r12 (app_in ti_wsL_law_r13 (app_in ti_wsL_law_r14 (app_in ti_wsL_law_r15 (app_in ti_wsL_law_r16 (app_in ti_wsL_law_r17 (app_in ti_wsL_law_r18 (app_in ti_wsL_law_r19 (app_in ti_wsL_law_r20 (app_in ti_wsL_law_r21 (app_in ti_wsL_law_r22 (app_in ti_wsL_law_r23 (app_in ti_wsL_law_r24 (app_in ti_wsL_law_r25 (app_in ti_wsL_law_r26 (app_in ti_wsL_law_r27 (app_in ti_wsL_law_r28 (ti_wsL_law_r29))))))))))))))))))))))))))))) ti_X5) ti_X6) ti_X3) ti_X4) ti_X2) ti_X1) ti_X0) (fun _ h => absurd h List.not_mem_nil)
theorem tq_ao : Cond.arrayOver (.object "SeamPictures$Picture") ∈ lw_tbl := List.mem_append_right _ (List.mem_append_left _ (List.mem_of_getElem? (i := 94) rfl))
