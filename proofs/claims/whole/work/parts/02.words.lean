set_option maxRecDepth 100000 in
def lw_tg : List Cond := lw_tbl.filter goodWord
set_option maxRecDepth 100000 in
theorem lw_in0 {w : Cond} {i : Nat} (h : tables_1[i]? = some w) : w ∈ lw_tbl := List.mem_append_right _ (List.mem_of_getElem? h)
set_option maxRecDepth 100000 in
theorem lw_in {w : Cond} {i : Nat} (h : tables_1[i]? = some w) (hg : goodWord w = true) : w ∈ lw_tg := List.mem_filter.mpr ⟨lw_in0 h, hg⟩
set_option maxRecDepth 100000 in
theorem lw_tg_in {w : Cond} (h : w ∈ lw_tg) : w ∈ lw_tbl := (List.mem_filter.mp h).1
set_option maxRecDepth 100000 in
theorem lw_tg_good : GoodIn lw_tg lw_tg := fun w h => ⟨h, good_of_word (List.mem_filter.mp h).2⟩
set_option maxRecDepth 100000 in
theorem i_X0 : ∀ w ∈ u_ws RX0 TX0 5, w ∈ lw_tg := by decide +kernel
set_option maxRecDepth 100000 in
theorem i_X1 : ∀ w ∈ u_ws RX1 TX1 3, w ∈ lw_tg := by decide +kernel
set_option maxRecDepth 100000 in
theorem i_X2 : ∀ w ∈ u_ws RX2 TX2 3, w ∈ lw_tg := by decide +kernel
set_option maxRecDepth 100000 in
theorem i_X3 : ∀ w ∈ u_ws RX3 TX3 7, w ∈ lw_tg := by decide +kernel
set_option maxRecDepth 100000 in
theorem i_X5 : ∀ w ∈ u_ws RX5 TX5 8, w ∈ lw_tg := by decide +kernel
set_option maxRecDepth 100000 in
theorem i_X6 : ∀ w ∈ u_ws RX6 TX6 30, w ∈ lw_tg := by decide +kernel
set_option maxRecDepth 100000 in
theorem q_in_RL : Cond.initialized RL ∈ lw_tg := lw_in (i := 0) (by decide +kernel) rfl
set_option maxRecDepth 100000 in
theorem q_in_RX5 : Cond.initialized RX5 ∈ lw_tg := lw_in (i := 1) (by decide +kernel) rfl
set_option maxRecDepth 100000 in
theorem q_in_RX3 : Cond.initialized RX3 ∈ lw_tg := lw_in (i := 2) (by decide +kernel) rfl
set_option maxRecDepth 100000 in
theorem q_in_RX1 : Cond.initialized RX1 ∈ lw_tg := lw_in (i := 3) (by decide +kernel) rfl
set_option maxRecDepth 100000 in
theorem q_in_RX2 : Cond.initialized RX2 ∈ lw_tg := lw_in (i := 4) (by decide +kernel) rfl
set_option maxRecDepth 100000 in
theorem q_in_RX0 : Cond.initialized RX0 ∈ lw_tg := lw_in (i := 5) (by decide +kernel) rfl
set_option maxRecDepth 100000 in
theorem q_in_RX6 : Cond.initialized RX6 ∈ lw_tg := lw_in (i := 6) (by decide +kernel) rfl
set_option maxRecDepth 100000 in
theorem q_in_RX4 : Cond.initialized RX4 ∈ lw_tg := lw_in (i := 7) (by decide +kernel) rfl
set_option maxRecDepth 100000 in
theorem q_in_RJ9 : Cond.initialized RJ9 ∈ lw_tg := lw_in (i := 8) (by decide +kernel) rfl
set_option maxRecDepth 100000 in
theorem q_in_RJ10 : Cond.initialized RJ10 ∈ lw_tg := lw_in (i := 9) (by decide +kernel) rfl
set_option maxRecDepth 100000 in
theorem q_in_RJ7 : Cond.initialized RJ7 ∈ lw_tg := lw_in (i := 10) (by decide +kernel) rfl
set_option maxRecDepth 100000 in
theorem q_in_RJ6 : Cond.initialized RJ6 ∈ lw_tg := lw_in (i := 11) (by decide +kernel) rfl
set_option maxRecDepth 100000 in
theorem q_cl_RL_7 : Cond.classLink RL 7 RX5 ∈ lw_tg := lw_in (i := 12) (by decide +kernel) rfl
set_option maxRecDepth 100000 in
theorem q_is_RX5 : Cond.instantiable RX5 8 ∈ lw_tg := lw_in (i := 13) (by decide +kernel) rfl
set_option maxRecDepth 100000 in
theorem q_ml_RL_9 : Cond.methodLink RL 9 yX5_init ∈ lw_tg := lw_in (i := 14) (by decide +kernel) rfl
set_option maxRecDepth 100000 in
theorem q_im_yX5_init : Cond.instanceMethod yX5_init ∈ lw_tg := lw_in (i := 15) (by decide +kernel) rfl
set_option maxRecDepth 100000 in
theorem q_co_yX5_init : Cond.code yX5_init cX5_init 2 (none : Option Jvm.ClassFile.FieldType) ∈ lw_tg := lw_in (i := 16) (by decide +kernel) rfl
set_option maxRecDepth 100000 in
theorem q_ml_RX5_3 : Cond.methodLink RX5 3 objectInit ∈ lw_tg := lw_in (i := 17) (by decide +kernel) rfl
set_option maxRecDepth 100000 in
theorem q_im_objectInit : Cond.instanceMethod objectInit ∈ lw_tg := lw_in (i := 18) (by decide +kernel) rfl
set_option maxRecDepth 100000 in
theorem q_co_objectInit : Cond.code objectInit object_method_1_code 1 (none : Option Jvm.ClassFile.FieldType) ∈ lw_tg := lw_in (i := 19) (by decide +kernel) rfl
set_option maxRecDepth 100000 in
theorem q_cl_RX5_9 : Cond.classLink RX5 9 RX3 ∈ lw_tg := lw_in (i := 20) (by decide +kernel) rfl
set_option maxRecDepth 100000 in
theorem q_is_RX3 : Cond.instantiable RX3 7 ∈ lw_tg := lw_in (i := 21) (by decide +kernel) rfl
set_option maxRecDepth 100000 in
theorem q_mn_RX5_11 : Cond.methodLinkNest RX5 11 yX3_init RX5 ∈ lw_tbl := lw_in0 (i := 22) (by decide +kernel)
set_option maxRecDepth 100000 in
theorem q_im_yX3_init : Cond.instanceMethod yX3_init ∈ lw_tg := lw_in (i := 23) (by decide +kernel) rfl
set_option maxRecDepth 100000 in
theorem q_co_yX3_init : Cond.code yX3_init cX3_init 1 (none : Option Jvm.ClassFile.FieldType) ∈ lw_tg := lw_in (i := 24) (by decide +kernel) rfl
set_option maxRecDepth 100000 in
theorem q_ml_RX3_3 : Cond.methodLink RX3 3 objectInit ∈ lw_tg := lw_in (i := 25) (by decide +kernel) rfl
set_option maxRecDepth 100000 in
theorem q_fl_RX4_28 : Cond.fieldLink RX4 28 "GlassHill$Slope" "paces" "I" ∈ lw_tg := lw_in (i := 26) (by decide +kernel) rfl
set_option maxRecDepth 100000 in
theorem q_fl_RX3_33 : Cond.fieldLink RX3 33 "GlassHill$Slope" "paces" "I" ∈ lw_tg := lw_in (i := 27) (by decide +kernel) rfl
set_option maxRecDepth 100000 in
theorem q_fl_RX0_57 : Cond.fieldLink RX0 57 "GlassHill$Slope" "paces" "I" ∈ lw_tg := lw_in (i := 28) (by decide +kernel) rfl
set_option maxRecDepth 100000 in
theorem q_fl_RX5_137 : Cond.fieldLink RX5 137 "GlassHill$Slope" "paces" "I" ∈ lw_tg := lw_in (i := 29) (by decide +kernel) rfl
set_option maxRecDepth 100000 in
theorem q_fl_RX5_80 : Cond.fieldLink RX5 80 "GlassHill$Slope" "riders" "I" ∈ lw_tg := lw_in (i := 30) (by decide +kernel) rfl
set_option maxRecDepth 100000 in
theorem q_fl_RX4_34 : Cond.fieldLink RX4 34 "GlassHill$Slope" "riders" "I" ∈ lw_tg := lw_in (i := 31) (by decide +kernel) rfl
set_option maxRecDepth 100000 in
theorem q_fl_RX0_88 : Cond.fieldLink RX0 88 "GlassHill$Slope" "riders" "I" ∈ lw_tg := lw_in (i := 32) (by decide +kernel) rfl
set_option maxRecDepth 100000 in
theorem q_fl_RX3_9 : Cond.fieldLink RX3 9 "GlassHill$Slope" "slick" "[I" ∈ lw_tg := lw_in (i := 33) (by decide +kernel) rfl
set_option maxRecDepth 100000 in
theorem q_fl_RX5_90 : Cond.fieldLink RX5 90 "GlassHill$Slope" "slick" "[I" ∈ lw_tg := lw_in (i := 34) (by decide +kernel) rfl
set_option maxRecDepth 100000 in
theorem q_fl_RX4_37 : Cond.fieldLink RX4 37 "GlassHill$Slope" "slick" "[I" ∈ lw_tg := lw_in (i := 35) (by decide +kernel) rfl
set_option maxRecDepth 100000 in
theorem q_fl_RX3_15 : Cond.fieldLink RX3 15 "GlassHill$Slope" "laid" "[I" ∈ lw_tg := lw_in (i := 36) (by decide +kernel) rfl
set_option maxRecDepth 100000 in
theorem q_fl_RX0_25 : Cond.fieldLink RX0 25 "GlassHill$Slope" "laid" "[I" ∈ lw_tg := lw_in (i := 37) (by decide +kernel) rfl
set_option maxRecDepth 100000 in
theorem q_fl_RX5_93 : Cond.fieldLink RX5 93 "GlassHill$Slope" "laid" "[I" ∈ lw_tg := lw_in (i := 38) (by decide +kernel) rfl
set_option maxRecDepth 100000 in
theorem q_fl_RX4_40 : Cond.fieldLink RX4 40 "GlassHill$Slope" "laid" "[I" ∈ lw_tg := lw_in (i := 39) (by decide +kernel) rfl
set_option maxRecDepth 100000 in
theorem q_fl_RX3_18 : Cond.fieldLink RX3 18 "GlassHill$Slope" "kind" "[I" ∈ lw_tg := lw_in (i := 40) (by decide +kernel) rfl
set_option maxRecDepth 100000 in
theorem q_fl_RX5_99 : Cond.fieldLink RX5 99 "GlassHill$Slope" "kind" "[I" ∈ lw_tg := lw_in (i := 41) (by decide +kernel) rfl
set_option maxRecDepth 100000 in
theorem q_fl_RX4_43 : Cond.fieldLink RX4 43 "GlassHill$Slope" "kind" "[I" ∈ lw_tg := lw_in (i := 42) (by decide +kernel) rfl
set_option maxRecDepth 100000 in
theorem q_fl_RX3_21 : Cond.fieldLink RX3 21 "GlassHill$Slope" "speed" "[I" ∈ lw_tg := lw_in (i := 43) (by decide +kernel) rfl
set_option maxRecDepth 100000 in
theorem q_fl_RX5_102 : Cond.fieldLink RX5 102 "GlassHill$Slope" "speed" "[I" ∈ lw_tg := lw_in (i := 44) (by decide +kernel) rfl
set_option maxRecDepth 100000 in
theorem q_fl_RX4_50 : Cond.fieldLink RX4 50 "GlassHill$Slope" "speed" "[I" ∈ lw_tg := lw_in (i := 45) (by decide +kernel) rfl
set_option maxRecDepth 100000 in
theorem q_fl_RX0_66 : Cond.fieldLink RX0 66 "GlassHill$Slope" "speed" "[I" ∈ lw_tg := lw_in (i := 46) (by decide +kernel) rfl
set_option maxRecDepth 100000 in
theorem q_fl_RX3_24 : Cond.fieldLink RX3 24 "GlassHill$Slope" "nails" "[I" ∈ lw_tg := lw_in (i := 47) (by decide +kernel) rfl
set_option maxRecDepth 100000 in
theorem q_fl_RX5_105 : Cond.fieldLink RX5 105 "GlassHill$Slope" "nails" "[I" ∈ lw_tg := lw_in (i := 48) (by decide +kernel) rfl
set_option maxRecDepth 100000 in
theorem q_fl_RX4_53 : Cond.fieldLink RX4 53 "GlassHill$Slope" "nails" "[I" ∈ lw_tg := lw_in (i := 49) (by decide +kernel) rfl
set_option maxRecDepth 100000 in
theorem q_ac : Cond.arrayClass .int ∈ lw_tg := lw_in (i := 65) (by decide +kernel) rfl
set_option maxRecDepth 100000 in
theorem q_cl_RX5_18 : Cond.classLink RX5 18 RX1 ∈ lw_tg := lw_in (i := 66) (by decide +kernel) rfl
set_option maxRecDepth 100000 in
theorem q_is_RX1 : Cond.instantiable RX1 3 ∈ lw_tg := lw_in (i := 67) (by decide +kernel) rfl
set_option maxRecDepth 100000 in
theorem q_mn_RX5_20 : Cond.methodLinkNest RX5 20 yX1_init RX5 ∈ lw_tbl := lw_in0 (i := 68) (by decide +kernel)
set_option maxRecDepth 100000 in
theorem q_im_yX1_init : Cond.instanceMethod yX1_init ∈ lw_tg := lw_in (i := 69) (by decide +kernel) rfl
set_option maxRecDepth 100000 in
theorem q_co_yX1_init : Cond.code yX1_init cX1_init 1 (none : Option Jvm.ClassFile.FieldType) ∈ lw_tg := lw_in (i := 70) (by decide +kernel) rfl
set_option maxRecDepth 100000 in
theorem q_ml_RX1_1 : Cond.methodLink RX1 1 objectInit ∈ lw_tg := lw_in (i := 71) (by decide +kernel) rfl
set_option maxRecDepth 100000 in
theorem q_fl_RX1_16 : Cond.fieldLink RX1 16 "GlassHill$Readings" "count" "I" ∈ lw_tg := lw_in (i := 72) (by decide +kernel) rfl
set_option maxRecDepth 100000 in
theorem q_fl_RX5_77 : Cond.fieldLink RX5 77 "GlassHill$Readings" "count" "I" ∈ lw_tg := lw_in (i := 73) (by decide +kernel) rfl
set_option maxRecDepth 100000 in
theorem q_fl_RX1_9 : Cond.fieldLink RX1 9 "GlassHill$Readings" "riders" "[I" ∈ lw_tg := lw_in (i := 74) (by decide +kernel) rfl
set_option maxRecDepth 100000 in
theorem q_fl_RX1_13 : Cond.fieldLink RX1 13 "GlassHill$Readings" "heights" "[I" ∈ lw_tg := lw_in (i := 75) (by decide +kernel) rfl
set_option maxRecDepth 100000 in
theorem q_cl_RX5_25 : Cond.classLink RX5 25 RX2 ∈ lw_tg := lw_in (i := 83) (by decide +kernel) rfl
set_option maxRecDepth 100000 in
theorem q_ao_84 : Cond.arrayOver (Jvm.ClassFile.FieldType.object "GlassHill$Row") ∈ lw_tbl := lw_in0 (i := 84) (by decide +kernel)
set_option maxRecDepth 100000 in
theorem q_is_RX2 : Cond.instantiable RX2 3 ∈ lw_tg := lw_in (i := 85) (by decide +kernel) rfl
set_option maxRecDepth 100000 in
theorem q_mn_RX5_31 : Cond.methodLinkNest RX5 31 yX2_init RX5 ∈ lw_tbl := lw_in0 (i := 86) (by decide +kernel)
set_option maxRecDepth 100000 in
theorem q_im_yX2_init : Cond.instanceMethod yX2_init ∈ lw_tg := lw_in (i := 87) (by decide +kernel) rfl
set_option maxRecDepth 100000 in
theorem q_co_yX2_init : Cond.code yX2_init cX2_init 1 (none : Option Jvm.ClassFile.FieldType) ∈ lw_tg := lw_in (i := 88) (by decide +kernel) rfl
set_option maxRecDepth 100000 in
theorem q_ml_RX2_3 : Cond.methodLink RX2 3 objectInit ∈ lw_tg := lw_in (i := 89) (by decide +kernel) rfl
set_option maxRecDepth 100000 in
theorem q_fl_RX2_11 : Cond.fieldLink RX2 11 "GlassHill$Row" "lane" "I" ∈ lw_tg := lw_in (i := 90) (by decide +kernel) rfl
set_option maxRecDepth 100000 in
theorem q_fl_RX5_201 : Cond.fieldLink RX5 201 "GlassHill$Row" "lane" "I" ∈ lw_tg := lw_in (i := 91) (by decide +kernel) rfl
set_option maxRecDepth 100000 in
theorem q_fl_RX2_19 : Cond.fieldLink RX2 19 "GlassHill$Row" "length" "I" ∈ lw_tg := lw_in (i := 92) (by decide +kernel) rfl
set_option maxRecDepth 100000 in
theorem q_fl_RX2_15 : Cond.fieldLink RX2 15 "GlassHill$Row" "cells" "[I" ∈ lw_tg := lw_in (i := 93) (by decide +kernel) rfl
set_option maxRecDepth 100000 in
theorem q_fl_RX4_9 : Cond.fieldLink RX4 9 "GlassHill$Row" "cells" "[I" ∈ lw_tg := lw_in (i := 94) (by decide +kernel) rfl
set_option maxRecDepth 100000 in
theorem q_fl_RX5_207 : Cond.fieldLink RX5 207 "GlassHill$Row" "cells" "[I" ∈ lw_tg := lw_in (i := 95) (by decide +kernel) rfl
set_option maxRecDepth 100000 in
theorem q_cl_RX5_32 : Cond.classLink RX5 32 RX0 ∈ lw_tg := lw_in (i := 103) (by decide +kernel) rfl
set_option maxRecDepth 100000 in
theorem q_ao_104 : Cond.arrayOver (Jvm.ClassFile.FieldType.object "GlassHill$Climb") ∈ lw_tbl := lw_in0 (i := 104) (by decide +kernel)
set_option maxRecDepth 100000 in
theorem q_is_RX0 : Cond.instantiable RX0 5 ∈ lw_tg := lw_in (i := 105) (by decide +kernel) rfl
set_option maxRecDepth 100000 in
theorem q_ml_RX5_38 : Cond.methodLink RX5 38 yX0_init ∈ lw_tg := lw_in (i := 106) (by decide +kernel) rfl
set_option maxRecDepth 100000 in
theorem q_im_yX0_init : Cond.instanceMethod yX0_init ∈ lw_tg := lw_in (i := 107) (by decide +kernel) rfl
set_option maxRecDepth 100000 in
theorem q_co_yX0_init : Cond.code yX0_init cX0_init 2 (none : Option Jvm.ClassFile.FieldType) ∈ lw_tg := lw_in (i := 108) (by decide +kernel) rfl
set_option maxRecDepth 100000 in
theorem q_ml_RX0_3 : Cond.methodLink RX0 3 objectInit ∈ lw_tg := lw_in (i := 109) (by decide +kernel) rfl
set_option maxRecDepth 100000 in
theorem q_fl_RX0_21 : Cond.fieldLink RX0 21 "GlassHill$Climb" "slope" "LGlassHill$Slope;" ∈ lw_tg := lw_in (i := 110) (by decide +kernel) rfl
set_option maxRecDepth 100000 in
theorem q_fl_RX5_251 : Cond.fieldLink RX5 251 "GlassHill$Climb" "slope" "LGlassHill$Slope;" ∈ lw_tg := lw_in (i := 111) (by decide +kernel) rfl
set_option maxRecDepth 100000 in
theorem q_fl_RX0_9 : Cond.fieldLink RX0 9 "GlassHill$Climb" "scratches" "[I" ∈ lw_tg := lw_in (i := 112) (by decide +kernel) rfl
set_option maxRecDepth 100000 in
theorem q_fl_RX0_15 : Cond.fieldLink RX0 15 "GlassHill$Climb" "tries" "[I" ∈ lw_tg := lw_in (i := 113) (by decide +kernel) rfl
set_option maxRecDepth 100000 in
theorem q_fl_RX0_18 : Cond.fieldLink RX0 18 "GlassHill$Climb" "heights" "[I" ∈ lw_tg := lw_in (i := 114) (by decide +kernel) rfl
set_option maxRecDepth 100000 in
theorem q_fl_RX0_42 : Cond.fieldLink RX0 42 "GlassHill$Climb" "up" "I" ∈ lw_tg := lw_in (i := 115) (by decide +kernel) rfl
set_option maxRecDepth 100000 in
theorem q_fl_RX5_122 : Cond.fieldLink RX5 122 "GlassHill$Climb" "up" "I" ∈ lw_tg := lw_in (i := 116) (by decide +kernel) rfl
set_option maxRecDepth 100000 in
theorem q_fl_RX5_12 : Cond.fieldLink RX5 12 "GlassHill" "slope" "LGlassHill$Slope;" ∈ lw_tg := lw_in (i := 128) (by decide +kernel) rfl
set_option maxRecDepth 100000 in
theorem q_fl_RX5_21 : Cond.fieldLink RX5 21 "GlassHill" "readings" "LGlassHill$Readings;" ∈ lw_tg := lw_in (i := 129) (by decide +kernel) rfl
set_option maxRecDepth 100000 in
theorem q_fl_RX5_27 : Cond.fieldLink RX5 27 "GlassHill" "sheets" "[LGlassHill$Row;" ∈ lw_tg := lw_in (i := 130) (by decide +kernel) rfl
set_option maxRecDepth 100000 in
theorem q_fl_RX5_34 : Cond.fieldLink RX5 34 "GlassHill" "climbs" "[LGlassHill$Climb;" ∈ lw_tg := lw_in (i := 131) (by decide +kernel) rfl
set_option maxRecDepth 100000 in
theorem q_fl_RX5_41 : Cond.fieldLink RX5 41 "GlassHill" "steps" "[I" ∈ lw_tg := lw_in (i := 132) (by decide +kernel) rfl
set_option maxRecDepth 100000 in
theorem q_fl_RX5_45 : Cond.fieldLink RX5 45 "GlassHill" "row" "[I" ∈ lw_tg := lw_in (i := 133) (by decide +kernel) rfl
set_option maxRecDepth 100000 in
theorem q_fl_RX5_232 : Cond.fieldLink RX5 232 "GlassHill" "trace" "I" ∈ lw_tg := lw_in (i := 134) (by decide +kernel) rfl
set_option maxRecDepth 100000 in
theorem q_fl_RX5_48 : Cond.fieldLink RX5 48 "GlassHill" "fault" "I" ∈ lw_tg := lw_in (i := 135) (by decide +kernel) rfl
set_option maxRecDepth 100000 in
theorem q_ml_RL_13 : Cond.methodLink RL 13 yX5_hill ∈ lw_tg := lw_in (i := 153) (by decide +kernel) rfl
set_option maxRecDepth 100000 in
theorem q_im_yX5_hill : Cond.instanceMethod yX5_hill ∈ lw_tg := lw_in (i := 154) (by decide +kernel) rfl
set_option maxRecDepth 100000 in
theorem q_se_yX5_hill : Cond.selects RX5 yX5_hill yX5_hill ∈ lw_tg := lw_in (i := 155) (by decide +kernel) rfl
set_option maxRecDepth 100000 in
theorem q_co_yX5_hill : Cond.code yX5_hill cX5_hill 8 (some .int) ∈ lw_tg := lw_in (i := 156) (by decide +kernel) rfl
set_option maxRecDepth 100000 in
theorem q_ml_RX5_52 : Cond.methodLink RX5 52 yX5_isSheet ∈ lw_tg := lw_in (i := 157) (by decide +kernel) rfl
set_option maxRecDepth 100000 in
theorem q_st_yX5_isSheet : Cond.static yX5_isSheet ∈ lw_tg := lw_in (i := 158) (by decide +kernel) rfl
set_option maxRecDepth 100000 in
theorem q_co_yX5_isSheet : Cond.code yX5_isSheet cX5_isSheet 1 (some .boolean) ∈ lw_tg := lw_in (i := 159) (by decide +kernel) rfl
set_option maxRecDepth 100000 in
theorem q_ml_RX5_86 : Cond.methodLink RX5 86 yX5_isIn ∈ lw_tg := lw_in (i := 160) (by decide +kernel) rfl
set_option maxRecDepth 100000 in
theorem q_st_yX5_isIn : Cond.static yX5_isIn ∈ lw_tg := lw_in (i := 161) (by decide +kernel) rfl
set_option maxRecDepth 100000 in
theorem q_co_yX5_isIn : Cond.code yX5_isIn cX5_isIn 3 (some .boolean) ∈ lw_tg := lw_in (i := 162) (by decide +kernel) rfl
set_option maxRecDepth 100000 in
theorem q_ml_RX5_56 : Cond.methodLink RX5 56 yX5_isLane ∈ lw_tg := lw_in (i := 163) (by decide +kernel) rfl
set_option maxRecDepth 100000 in
theorem q_st_yX5_isLane : Cond.static yX5_isLane ∈ lw_tg := lw_in (i := 164) (by decide +kernel) rfl
set_option maxRecDepth 100000 in
theorem q_co_yX5_isLane : Cond.code yX5_isLane cX5_isLane 1 (some .boolean) ∈ lw_tg := lw_in (i := 165) (by decide +kernel) rfl
set_option maxRecDepth 100000 in
theorem q_ml_RX5_59 : Cond.methodLink RX5 59 yX5_faultOfCells ∈ lw_tg := lw_in (i := 166) (by decide +kernel) rfl
set_option maxRecDepth 100000 in
theorem q_st_yX5_faultOfCells : Cond.static yX5_faultOfCells ∈ lw_tg := lw_in (i := 167) (by decide +kernel) rfl
set_option maxRecDepth 100000 in
theorem q_co_yX5_faultOfCells : Cond.code yX5_faultOfCells cX5_faultOfCells 4 (some .int) ∈ lw_tg := lw_in (i := 168) (by decide +kernel) rfl
set_option maxRecDepth 100000 in
theorem q_ml_RX5_198 : Cond.methodLink RX5 198 yX2_isNothing ∈ lw_tg := lw_in (i := 169) (by decide +kernel) rfl
set_option maxRecDepth 100000 in
theorem q_im_yX2_isNothing : Cond.instanceMethod yX2_isNothing ∈ lw_tg := lw_in (i := 170) (by decide +kernel) rfl
set_option maxRecDepth 100000 in
theorem q_se_yX2_isNothing : Cond.selects RX2 yX2_isNothing yX2_isNothing ∈ lw_tg := lw_in (i := 171) (by decide +kernel) rfl
set_option maxRecDepth 100000 in
theorem q_co_yX2_isNothing : Cond.code yX2_isNothing cX2_isNothing 1 (some .boolean) ∈ lw_tg := lw_in (i := 172) (by decide +kernel) rfl
set_option maxRecDepth 100000 in
theorem q_ml_RX5_210 : Cond.methodLink RX5 210 yX2_holds ∈ lw_tg := lw_in (i := 173) (by decide +kernel) rfl
set_option maxRecDepth 100000 in
theorem q_im_yX2_holds : Cond.instanceMethod yX2_holds ∈ lw_tg := lw_in (i := 174) (by decide +kernel) rfl
set_option maxRecDepth 100000 in
theorem q_se_yX2_holds : Cond.selects RX2 yX2_holds yX2_holds ∈ lw_tg := lw_in (i := 175) (by decide +kernel) rfl
set_option maxRecDepth 100000 in
theorem q_co_yX2_holds : Cond.code yX2_holds cX2_holds 3 (some .boolean) ∈ lw_tg := lw_in (i := 176) (by decide +kernel) rfl
set_option maxRecDepth 100000 in
theorem q_ml_RX5_63 : Cond.methodLink RX5 63 yX5_meet ∈ lw_tg := lw_in (i := 177) (by decide +kernel) rfl
set_option maxRecDepth 100000 in
theorem q_im_yX5_meet : Cond.instanceMethod yX5_meet ∈ lw_tg := lw_in (i := 179) (by decide +kernel) rfl
set_option maxRecDepth 100000 in
theorem q_co_yX5_meet : Cond.code yX5_meet cX5_meet 2 (some .int) ∈ lw_tg := lw_in (i := 180) (by decide +kernel) rfl
set_option maxRecDepth 100000 in
theorem q_ml_RX5_67 : Cond.methodLink RX5 67 yX4_firstFault ∈ lw_tg := lw_in (i := 181) (by decide +kernel) rfl
set_option maxRecDepth 100000 in
theorem q_st_yX4_firstFault : Cond.static yX4_firstFault ∈ lw_tg := lw_in (i := 182) (by decide +kernel) rfl
set_option maxRecDepth 100000 in
theorem q_co_yX4_firstFault : Cond.code yX4_firstFault cX4_firstFault 6 (some .int) ∈ lw_tg := lw_in (i := 183) (by decide +kernel) rfl
set_option maxRecDepth 100000 in
theorem q_ml_RX4_15 : Cond.methodLink RX4 15 yX4_goesOn ∈ lw_tg := lw_in (i := 184) (by decide +kernel) rfl
set_option maxRecDepth 100000 in
theorem q_st_yX4_goesOn : Cond.static yX4_goesOn ∈ lw_tg := lw_in (i := 185) (by decide +kernel) rfl
set_option maxRecDepth 100000 in
theorem q_co_yX4_goesOn : Cond.code yX4_goesOn cX4_goesOn 4 (some .boolean) ∈ lw_tg := lw_in (i := 186) (by decide +kernel) rfl
set_option maxRecDepth 100000 in
theorem q_mn_RX4_21 : Cond.methodLinkNest RX4 21 yX5_isIn RX5 ∈ lw_tbl := lw_in0 (i := 187) (by decide +kernel)
set_option maxRecDepth 100000 in
theorem q_ml_RX5_73 : Cond.methodLink RX5 73 yX4_build ∈ lw_tg := lw_in (i := 188) (by decide +kernel) rfl
set_option maxRecDepth 100000 in
theorem q_st_yX4_build : Cond.static yX4_build ∈ lw_tg := lw_in (i := 189) (by decide +kernel) rfl
set_option maxRecDepth 100000 in
theorem q_co_yX4_build : Cond.code yX4_build cX4_build 6 (none : Option Jvm.ClassFile.FieldType) ∈ lw_tg := lw_in (i := 190) (by decide +kernel) rfl
set_option maxRecDepth 100000 in
theorem q_ml_RX4_24 : Cond.methodLink RX4 24 yX4_digit ∈ lw_tg := lw_in (i := 191) (by decide +kernel) rfl
set_option maxRecDepth 100000 in
theorem q_st_yX4_digit : Cond.static yX4_digit ∈ lw_tg := lw_in (i := 192) (by decide +kernel) rfl
set_option maxRecDepth 100000 in
theorem q_co_yX4_digit : Cond.code yX4_digit cX4_digit 2 (some .int) ∈ lw_tg := lw_in (i := 193) (by decide +kernel) rfl
set_option maxRecDepth 100000 in
theorem q_ml_RX4_46 : Cond.methodLink RX4 46 yX4_kindOf ∈ lw_tg := lw_in (i := 194) (by decide +kernel) rfl
set_option maxRecDepth 100000 in
theorem q_st_yX4_kindOf : Cond.static yX4_kindOf ∈ lw_tg := lw_in (i := 195) (by decide +kernel) rfl
set_option maxRecDepth 100000 in
theorem q_co_yX4_kindOf : Cond.code yX4_kindOf cX4_kindOf 1 (some .int) ∈ lw_tg := lw_in (i := 196) (by decide +kernel) rfl
set_option maxRecDepth 100000 in
theorem q_ml_RL_18 : Cond.methodLink RL 18 yX5_ofPace ∈ lw_tg := lw_in (i := 197) (by decide +kernel) rfl
set_option maxRecDepth 100000 in
theorem q_im_yX5_ofPace : Cond.instanceMethod yX5_ofPace ∈ lw_tg := lw_in (i := 198) (by decide +kernel) rfl
set_option maxRecDepth 100000 in
theorem q_se_yX5_ofPace : Cond.selects RX5 yX5_ofPace yX5_ofPace ∈ lw_tg := lw_in (i := 199) (by decide +kernel) rfl
set_option maxRecDepth 100000 in
theorem q_co_yX5_ofPace : Cond.code yX5_ofPace cX5_ofPace 3 (some .int) ∈ lw_tg := lw_in (i := 200) (by decide +kernel) rfl
set_option maxRecDepth 100000 in
theorem q_ml_RX5_83 : Cond.methodLink RX5 83 yX5_isPace ∈ lw_tg := lw_in (i := 201) (by decide +kernel) rfl
set_option maxRecDepth 100000 in
theorem q_im_yX5_isPace : Cond.instanceMethod yX5_isPace ∈ lw_tg := lw_in (i := 203) (by decide +kernel) rfl
set_option maxRecDepth 100000 in
theorem q_co_yX5_isPace : Cond.code yX5_isPace cX5_isPace 2 (some .boolean) ∈ lw_tg := lw_in (i := 204) (by decide +kernel) rfl
set_option maxRecDepth 100000 in
theorem q_ml_RL_23 : Cond.methodLink RL 23 yX5_ofRider ∈ lw_tg := lw_in (i := 205) (by decide +kernel) rfl
set_option maxRecDepth 100000 in
theorem q_im_yX5_ofRider : Cond.instanceMethod yX5_ofRider ∈ lw_tg := lw_in (i := 206) (by decide +kernel) rfl
set_option maxRecDepth 100000 in
theorem q_se_yX5_ofRider : Cond.selects RX5 yX5_ofRider yX5_ofRider ∈ lw_tg := lw_in (i := 207) (by decide +kernel) rfl
set_option maxRecDepth 100000 in
theorem q_co_yX5_ofRider : Cond.code yX5_ofRider cX5_ofRider 3 (some .int) ∈ lw_tg := lw_in (i := 208) (by decide +kernel) rfl
set_option maxRecDepth 100000 in
theorem q_ml_RX5_96 : Cond.methodLink RX5 96 yX5_isRider ∈ lw_tg := lw_in (i := 209) (by decide +kernel) rfl
set_option maxRecDepth 100000 in
theorem q_im_yX5_isRider : Cond.instanceMethod yX5_isRider ∈ lw_tg := lw_in (i := 211) (by decide +kernel) rfl
set_option maxRecDepth 100000 in
theorem q_co_yX5_isRider : Cond.code yX5_isRider cX5_isRider 2 (some .boolean) ∈ lw_tg := lw_in (i := 212) (by decide +kernel) rfl
set_option maxRecDepth 100000 in
theorem q_ml_RL_27 : Cond.methodLink RL 27 yX5_scratch ∈ lw_tg := lw_in (i := 213) (by decide +kernel) rfl
set_option maxRecDepth 100000 in
theorem q_im_yX5_scratch : Cond.instanceMethod yX5_scratch ∈ lw_tg := lw_in (i := 214) (by decide +kernel) rfl
set_option maxRecDepth 100000 in
theorem q_se_yX5_scratch : Cond.selects RX5 yX5_scratch yX5_scratch ∈ lw_tg := lw_in (i := 215) (by decide +kernel) rfl
set_option maxRecDepth 100000 in
theorem q_co_yX5_scratch : Cond.code yX5_scratch cX5_scratch 4 (some .int) ∈ lw_tg := lw_in (i := 216) (by decide +kernel) rfl
set_option maxRecDepth 100000 in
theorem q_ml_RL_31 : Cond.methodLink RL 31 yX5_speed ∈ lw_tg := lw_in (i := 217) (by decide +kernel) rfl
set_option maxRecDepth 100000 in
theorem q_im_yX5_speed : Cond.instanceMethod yX5_speed ∈ lw_tg := lw_in (i := 218) (by decide +kernel) rfl
set_option maxRecDepth 100000 in
theorem q_se_yX5_speed : Cond.selects RX5 yX5_speed yX5_speed ∈ lw_tg := lw_in (i := 219) (by decide +kernel) rfl
set_option maxRecDepth 100000 in
theorem q_co_yX5_speed : Cond.code yX5_speed cX5_speed 3 (some .int) ∈ lw_tg := lw_in (i := 220) (by decide +kernel) rfl
set_option maxRecDepth 100000 in
theorem q_ml_RX5_108 : Cond.methodLink RX5 108 yX3_exchange ∈ lw_tg := lw_in (i := 221) (by decide +kernel) rfl
set_option maxRecDepth 100000 in
theorem q_im_yX3_exchange : Cond.instanceMethod yX3_exchange ∈ lw_tg := lw_in (i := 222) (by decide +kernel) rfl
set_option maxRecDepth 100000 in
theorem q_se_yX3_exchange : Cond.selects RX3 yX3_exchange yX3_exchange ∈ lw_tg := lw_in (i := 223) (by decide +kernel) rfl
set_option maxRecDepth 100000 in
theorem q_co_yX3_exchange : Cond.code yX3_exchange cX3_exchange 6 (some .int) ∈ lw_tg := lw_in (i := 224) (by decide +kernel) rfl
set_option maxRecDepth 100000 in
theorem q_ml_RL_35 : Cond.methodLink RL 35 yX5_shoe ∈ lw_tg := lw_in (i := 225) (by decide +kernel) rfl
set_option maxRecDepth 100000 in
theorem q_im_yX5_shoe : Cond.instanceMethod yX5_shoe ∈ lw_tg := lw_in (i := 226) (by decide +kernel) rfl
set_option maxRecDepth 100000 in
theorem q_se_yX5_shoe : Cond.selects RX5 yX5_shoe yX5_shoe ∈ lw_tg := lw_in (i := 227) (by decide +kernel) rfl
set_option maxRecDepth 100000 in
theorem q_co_yX5_shoe : Cond.code yX5_shoe cX5_shoe 3 (some .int) ∈ lw_tg := lw_in (i := 228) (by decide +kernel) rfl
set_option maxRecDepth 100000 in
theorem q_ml_RL_39 : Cond.methodLink RL 39 yX5_takes ∈ lw_tg := lw_in (i := 229) (by decide +kernel) rfl
set_option maxRecDepth 100000 in
theorem q_im_yX5_takes : Cond.instanceMethod yX5_takes ∈ lw_tg := lw_in (i := 230) (by decide +kernel) rfl
set_option maxRecDepth 100000 in
theorem q_se_yX5_takes : Cond.selects RX5 yX5_takes yX5_takes ∈ lw_tg := lw_in (i := 231) (by decide +kernel) rfl
set_option maxRecDepth 100000 in
theorem q_co_yX5_takes : Cond.code yX5_takes cX5_takes 4 (some .int) ∈ lw_tg := lw_in (i := 232) (by decide +kernel) rfl
set_option maxRecDepth 100000 in
theorem q_ml_RX5_112 : Cond.methodLink RX5 112 yX3_toll ∈ lw_tg := lw_in (i := 233) (by decide +kernel) rfl
set_option maxRecDepth 100000 in
theorem q_im_yX3_toll : Cond.instanceMethod yX3_toll ∈ lw_tg := lw_in (i := 234) (by decide +kernel) rfl
set_option maxRecDepth 100000 in
theorem q_se_yX3_toll : Cond.selects RX3 yX3_toll yX3_toll ∈ lw_tg := lw_in (i := 235) (by decide +kernel) rfl
set_option maxRecDepth 100000 in
theorem q_co_yX3_toll : Cond.code yX3_toll cX3_toll 5 (some .int) ∈ lw_tg := lw_in (i := 236) (by decide +kernel) rfl
set_option maxRecDepth 100000 in
theorem q_ml_RX3_27 : Cond.methodLink RX3 27 Lib.Math.max.name ∈ lw_tg := lw_in (i := 237) (by decide +kernel) rfl
set_option maxRecDepth 100000 in
theorem q_st_max : Cond.static Lib.Math.max.name ∈ lw_tg := lw_in (i := 238) (by decide +kernel) rfl
set_option maxRecDepth 100000 in
theorem q_co_max : Cond.code Lib.Math.max.name Lib.Math.max.code 2 (some .int) ∈ lw_tg := lw_in (i := 239) (by decide +kernel) rfl
set_option maxRecDepth 100000 in
theorem q_ml_RL_44 : Cond.methodLink RL 44 yX5_days ∈ lw_tg := lw_in (i := 240) (by decide +kernel) rfl
set_option maxRecDepth 100000 in
theorem q_im_yX5_days : Cond.instanceMethod yX5_days ∈ lw_tg := lw_in (i := 241) (by decide +kernel) rfl
set_option maxRecDepth 100000 in
theorem q_se_yX5_days : Cond.selects RX5 yX5_days yX5_days ∈ lw_tg := lw_in (i := 242) (by decide +kernel) rfl
set_option maxRecDepth 100000 in
theorem q_co_yX5_days : Cond.code yX5_days cX5_days 9 (some .int) ∈ lw_tg := lw_in (i := 243) (by decide +kernel) rfl
set_option maxRecDepth 100000 in
theorem q_ml_RX5_115 : Cond.methodLink RX5 115 yX5_readSteps ∈ lw_tg := lw_in (i := 244) (by decide +kernel) rfl
set_option maxRecDepth 100000 in
theorem q_im_yX5_readSteps : Cond.instanceMethod yX5_readSteps ∈ lw_tg := lw_in (i := 246) (by decide +kernel) rfl
set_option maxRecDepth 100000 in
theorem q_co_yX5_readSteps : Cond.code yX5_readSteps cX5_readSteps 9 (some .int) ∈ lw_tg := lw_in (i := 247) (by decide +kernel) rfl
set_option maxRecDepth 100000 in
theorem q_ml_RX5_119 : Cond.methodLink RX5 119 yX5_firstWrong ∈ lw_tg := lw_in (i := 248) (by decide +kernel) rfl
set_option maxRecDepth 100000 in
theorem q_im_yX5_firstWrong : Cond.instanceMethod yX5_firstWrong ∈ lw_tg := lw_in (i := 250) (by decide +kernel) rfl
set_option maxRecDepth 100000 in
theorem q_co_yX5_firstWrong : Cond.code yX5_firstWrong cX5_firstWrong 4 (some .int) ∈ lw_tg := lw_in (i := 251) (by decide +kernel) rfl
set_option maxRecDepth 100000 in
theorem q_ml_RX5_149 : Cond.methodLink RX5 149 yX0_begin ∈ lw_tg := lw_in (i := 252) (by decide +kernel) rfl
set_option maxRecDepth 100000 in
theorem q_im_yX0_begin : Cond.instanceMethod yX0_begin ∈ lw_tg := lw_in (i := 253) (by decide +kernel) rfl
set_option maxRecDepth 100000 in
theorem q_se_yX0_begin : Cond.selects RX0 yX0_begin yX0_begin ∈ lw_tg := lw_in (i := 254) (by decide +kernel) rfl
set_option maxRecDepth 100000 in
theorem q_co_yX0_begin : Cond.code yX0_begin cX0_begin 1 (none : Option Jvm.ClassFile.FieldType) ∈ lw_tg := lw_in (i := 255) (by decide +kernel) rfl
set_option maxRecDepth 100000 in
theorem q_ml_RX0_30 : Cond.methodLink RX0 30 arraycopyName ∈ lw_tg := lw_in (i := 256) (by decide +kernel) rfl
set_option maxRecDepth 100000 in
theorem q_st_arraycopy : Cond.static arraycopyName ∈ lw_tg := lw_in (i := 257) (by decide +kernel) rfl
set_option maxRecDepth 100000 in
theorem q_na_arraycopy : Cond.native arraycopyName ∈ lw_tg := lw_in (i := 258) (by decide +kernel) rfl
set_option maxRecDepth 100000 in
theorem q_ml_RX0_36 : Cond.methodLink RX0 36 yJ7_fill_53178 ∈ lw_tg := lw_in (i := 259) (by decide +kernel) rfl
set_option maxRecDepth 100000 in
theorem q_st_yJ7_fill_53178 : Cond.static yJ7_fill_53178 ∈ lw_tg := lw_in (i := 260) (by decide +kernel) rfl
set_option maxRecDepth 100000 in
theorem q_co_yJ7_fill_53178 : Cond.code yJ7_fill_53178 cJ7_fill_53178 4 (none : Option Jvm.ClassFile.FieldType) ∈ lw_tg := lw_in (i := 261) (by decide +kernel) rfl
set_option maxRecDepth 100000 in
theorem q_ml_RX5_235 : Cond.methodLink RX5 235 yX0_polish ∈ lw_tg := lw_in (i := 262) (by decide +kernel) rfl
set_option maxRecDepth 100000 in
theorem q_im_yX0_polish : Cond.instanceMethod yX0_polish ∈ lw_tg := lw_in (i := 263) (by decide +kernel) rfl
set_option maxRecDepth 100000 in
theorem q_se_yX0_polish : Cond.selects RX0 yX0_polish yX0_polish ∈ lw_tg := lw_in (i := 264) (by decide +kernel) rfl
set_option maxRecDepth 100000 in
theorem q_co_yX0_polish : Cond.code yX0_polish cX0_polish 2 (none : Option Jvm.ClassFile.FieldType) ∈ lw_tg := lw_in (i := 265) (by decide +kernel) rfl
set_option maxRecDepth 100000 in
theorem q_ml_RX0_60 : Cond.methodLink RX0 60 Lib.Math.max.name ∈ lw_tg := lw_in (i := 266) (by decide +kernel) rfl
set_option maxRecDepth 100000 in
theorem q_ml_RX5_238 : Cond.methodLink RX5 238 yX0_isUp ∈ lw_tg := lw_in (i := 267) (by decide +kernel) rfl
set_option maxRecDepth 100000 in
theorem q_im_yX0_isUp : Cond.instanceMethod yX0_isUp ∈ lw_tg := lw_in (i := 268) (by decide +kernel) rfl
set_option maxRecDepth 100000 in
theorem q_se_yX0_isUp : Cond.selects RX0 yX0_isUp yX0_isUp ∈ lw_tg := lw_in (i := 269) (by decide +kernel) rfl
set_option maxRecDepth 100000 in
theorem q_co_yX0_isUp : Cond.code yX0_isUp cX0_isUp 2 (some .boolean) ∈ lw_tg := lw_in (i := 270) (by decide +kernel) rfl
set_option maxRecDepth 100000 in
theorem q_ml_RX5_241 : Cond.methodLink RX5 241 yX0_attempt ∈ lw_tg := lw_in (i := 271) (by decide +kernel) rfl
set_option maxRecDepth 100000 in
theorem q_im_yX0_attempt : Cond.instanceMethod yX0_attempt ∈ lw_tg := lw_in (i := 272) (by decide +kernel) rfl
set_option maxRecDepth 100000 in
theorem q_se_yX0_attempt : Cond.selects RX0 yX0_attempt yX0_attempt ∈ lw_tg := lw_in (i := 273) (by decide +kernel) rfl
set_option maxRecDepth 100000 in
theorem q_co_yX0_attempt : Cond.code yX0_attempt cX0_attempt 6 (none : Option Jvm.ClassFile.FieldType) ∈ lw_tg := lw_in (i := 274) (by decide +kernel) rfl
set_option maxRecDepth 100000 in
theorem q_ml_RX0_69 : Cond.methodLink RX0 69 yX3_toll ∈ lw_tg := lw_in (i := 275) (by decide +kernel) rfl
set_option maxRecDepth 100000 in
theorem q_ml_RX0_73 : Cond.methodLink RX0 73 yX3_marks ∈ lw_tg := lw_in (i := 276) (by decide +kernel) rfl
set_option maxRecDepth 100000 in
theorem q_im_yX3_marks : Cond.instanceMethod yX3_marks ∈ lw_tg := lw_in (i := 277) (by decide +kernel) rfl
set_option maxRecDepth 100000 in
theorem q_se_yX3_marks : Cond.selects RX3 yX3_marks yX3_marks ∈ lw_tg := lw_in (i := 278) (by decide +kernel) rfl
set_option maxRecDepth 100000 in
theorem q_co_yX3_marks : Cond.code yX3_marks cX3_marks 2 (some .int) ∈ lw_tg := lw_in (i := 279) (by decide +kernel) rfl
set_option maxRecDepth 100000 in
theorem q_ml_RX0_77 : Cond.methodLink RX0 77 yX0_slideBack ∈ lw_tg := lw_in (i := 280) (by decide +kernel) rfl
set_option maxRecDepth 100000 in
theorem q_im_yX0_slideBack : Cond.instanceMethod yX0_slideBack ∈ lw_tg := lw_in (i := 282) (by decide +kernel) rfl
set_option maxRecDepth 100000 in
theorem q_co_yX0_slideBack : Cond.code yX0_slideBack cX0_slideBack 4 (none : Option Jvm.ClassFile.FieldType) ∈ lw_tg := lw_in (i := 283) (by decide +kernel) rfl
set_option maxRecDepth 100000 in
theorem q_ml_RX0_81 : Cond.methodLink RX0 81 Lib.Math.min.name ∈ lw_tg := lw_in (i := 284) (by decide +kernel) rfl
set_option maxRecDepth 100000 in
theorem q_st_min : Cond.static Lib.Math.min.name ∈ lw_tg := lw_in (i := 285) (by decide +kernel) rfl
set_option maxRecDepth 100000 in
theorem q_co_min : Cond.code Lib.Math.min.name Lib.Math.min.code 2 (some .int) ∈ lw_tg := lw_in (i := 286) (by decide +kernel) rfl
set_option maxRecDepth 100000 in
theorem q_ml_RX5_125 : Cond.methodLink RX5 125 yX5_firstUp ∈ lw_tg := lw_in (i := 287) (by decide +kernel) rfl
set_option maxRecDepth 100000 in
theorem q_im_yX5_firstUp : Cond.instanceMethod yX5_firstUp ∈ lw_tg := lw_in (i := 289) (by decide +kernel) rfl
set_option maxRecDepth 100000 in
theorem q_co_yX5_firstUp : Cond.code yX5_firstUp cX5_firstUp 4 (some .int) ∈ lw_tg := lw_in (i := 290) (by decide +kernel) rfl
set_option maxRecDepth 100000 in
theorem q_ml_RX5_244 : Cond.methodLink RX5 244 yX0_goOn ∈ lw_tg := lw_in (i := 291) (by decide +kernel) rfl
set_option maxRecDepth 100000 in
theorem q_im_yX0_goOn : Cond.instanceMethod yX0_goOn ∈ lw_tg := lw_in (i := 292) (by decide +kernel) rfl
set_option maxRecDepth 100000 in
theorem q_se_yX0_goOn : Cond.selects RX0 yX0_goOn yX0_goOn ∈ lw_tg := lw_in (i := 293) (by decide +kernel) rfl
set_option maxRecDepth 100000 in
theorem q_co_yX0_goOn : Cond.code yX0_goOn cX0_goOn 2 (none : Option Jvm.ClassFile.FieldType) ∈ lw_tg := lw_in (i := 294) (by decide +kernel) rfl
set_option maxRecDepth 100000 in
theorem q_ml_RX0_46 : Cond.methodLink RX0 46 yX0_polish ∈ lw_tg := lw_in (i := 295) (by decide +kernel) rfl
set_option maxRecDepth 100000 in
theorem q_ml_RX0_49 : Cond.methodLink RX0 49 yX0_isUp ∈ lw_tg := lw_in (i := 296) (by decide +kernel) rfl
set_option maxRecDepth 100000 in
theorem q_ml_RX0_53 : Cond.methodLink RX0 53 yX0_attempt ∈ lw_tg := lw_in (i := 297) (by decide +kernel) rfl
set_option maxRecDepth 100000 in
theorem q_ml_RX5_128 : Cond.methodLink RX5 128 yX0_scratchesOf ∈ lw_tg := lw_in (i := 298) (by decide +kernel) rfl
set_option maxRecDepth 100000 in
theorem q_im_yX0_scratchesOf : Cond.instanceMethod yX0_scratchesOf ∈ lw_tg := lw_in (i := 299) (by decide +kernel) rfl
set_option maxRecDepth 100000 in
theorem q_se_yX0_scratchesOf : Cond.selects RX0 yX0_scratchesOf yX0_scratchesOf ∈ lw_tg := lw_in (i := 300) (by decide +kernel) rfl
set_option maxRecDepth 100000 in
theorem q_co_yX0_scratchesOf : Cond.code yX0_scratchesOf cX0_scratchesOf 2 (some .int) ∈ lw_tg := lw_in (i := 301) (by decide +kernel) rfl
set_option maxRecDepth 100000 in
theorem q_mn_RX0_84 : Cond.methodLinkNest RX0 84 yX5_isIn RX5 ∈ lw_tbl := lw_in0 (i := 302) (by decide +kernel)
set_option maxRecDepth 100000 in
theorem q_ml_RX5_131 : Cond.methodLink RX5 131 yX0_heightOf ∈ lw_tg := lw_in (i := 303) (by decide +kernel) rfl
set_option maxRecDepth 100000 in
theorem q_im_yX0_heightOf : Cond.instanceMethod yX0_heightOf ∈ lw_tg := lw_in (i := 304) (by decide +kernel) rfl
set_option maxRecDepth 100000 in
theorem q_se_yX0_heightOf : Cond.selects RX0 yX0_heightOf yX0_heightOf ∈ lw_tg := lw_in (i := 305) (by decide +kernel) rfl
set_option maxRecDepth 100000 in
theorem q_co_yX0_heightOf : Cond.code yX0_heightOf cX0_heightOf 2 (some .int) ∈ lw_tg := lw_in (i := 306) (by decide +kernel) rfl
set_option maxRecDepth 100000 in
theorem q_ml_RL_49 : Cond.methodLink RL 49 yX5_fewest ∈ lw_tg := lw_in (i := 307) (by decide +kernel) rfl
set_option maxRecDepth 100000 in
theorem q_im_yX5_fewest : Cond.instanceMethod yX5_fewest ∈ lw_tg := lw_in (i := 308) (by decide +kernel) rfl
set_option maxRecDepth 100000 in
theorem q_se_yX5_fewest : Cond.selects RX5 yX5_fewest yX5_fewest ∈ lw_tg := lw_in (i := 309) (by decide +kernel) rfl
set_option maxRecDepth 100000 in
theorem q_co_yX5_fewest : Cond.code yX5_fewest cX5_fewest 4 (some .int) ∈ lw_tg := lw_in (i := 310) (by decide +kernel) rfl
set_option maxRecDepth 100000 in
theorem q_ml_RX5_134 : Cond.methodLink RX5 134 yX5_fewestTries ∈ lw_tg := lw_in (i := 311) (by decide +kernel) rfl
set_option maxRecDepth 100000 in
theorem q_im_yX5_fewestTries : Cond.instanceMethod yX5_fewestTries ∈ lw_tg := lw_in (i := 313) (by decide +kernel) rfl
set_option maxRecDepth 100000 in
theorem q_co_yX5_fewestTries : Cond.code yX5_fewestTries cX5_fewestTries 3 (some .int) ∈ lw_tg := lw_in (i := 314) (by decide +kernel) rfl
set_option maxRecDepth 100000 in
theorem q_ml_RX5_247 : Cond.methodLink RX5 247 yX5_findRow ∈ lw_tg := lw_in (i := 315) (by decide +kernel) rfl
set_option maxRecDepth 100000 in
theorem q_st_yX5_findRow : Cond.static yX5_findRow ∈ lw_tg := lw_in (i := 316) (by decide +kernel) rfl
set_option maxRecDepth 100000 in
theorem q_co_yX5_findRow : Cond.code yX5_findRow cX5_findRow 11 (some .boolean) ∈ lw_tg := lw_in (i := 317) (by decide +kernel) rfl
set_option maxRecDepth 100000 in
theorem q_ml_RX5_252 : Cond.methodLink RX5 252 yX0_become ∈ lw_tg := lw_in (i := 318) (by decide +kernel) rfl
set_option maxRecDepth 100000 in
theorem q_im_yX0_become : Cond.instanceMethod yX0_become ∈ lw_tg := lw_in (i := 319) (by decide +kernel) rfl
set_option maxRecDepth 100000 in
theorem q_se_yX0_become : Cond.selects RX0 yX0_become yX0_become ∈ lw_tg := lw_in (i := 320) (by decide +kernel) rfl
set_option maxRecDepth 100000 in
theorem q_co_yX0_become : Cond.code yX0_become cX0_become 2 (none : Option Jvm.ClassFile.FieldType) ∈ lw_tg := lw_in (i := 321) (by decide +kernel) rfl
set_option maxRecDepth 100000 in
theorem q_ml_RL_53 : Cond.methodLink RL 53 yX5_sand ∈ lw_tg := lw_in (i := 322) (by decide +kernel) rfl
set_option maxRecDepth 100000 in
theorem q_im_yX5_sand : Cond.instanceMethod yX5_sand ∈ lw_tg := lw_in (i := 323) (by decide +kernel) rfl
set_option maxRecDepth 100000 in
theorem q_se_yX5_sand : Cond.selects RX5 yX5_sand yX5_sand ∈ lw_tg := lw_in (i := 324) (by decide +kernel) rfl
set_option maxRecDepth 100000 in
theorem q_co_yX5_sand : Cond.code yX5_sand cX5_sand 4 (some .int) ∈ lw_tg := lw_in (i := 325) (by decide +kernel) rfl
set_option maxRecDepth 100000 in
theorem q_ml_RX5_140 : Cond.methodLink RX5 140 yJ6_bitCount_0f7a4 ∈ lw_tg := lw_in (i := 326) (by decide +kernel) rfl
set_option maxRecDepth 100000 in
theorem q_st_yJ6_bitCount_0f7a4 : Cond.static yJ6_bitCount_0f7a4 ∈ lw_tg := lw_in (i := 327) (by decide +kernel) rfl
set_option maxRecDepth 100000 in
theorem q_co_yJ6_bitCount_0f7a4 : Cond.code yJ6_bitCount_0f7a4 cJ6_bitCount_0f7a4 1 (some .int) ∈ lw_tg := lw_in (i := 328) (by decide +kernel) rfl
set_option maxRecDepth 100000 in
theorem q_k_RJ6_265 : Cond.constant RJ6 265 (1431655765 : Int32) ∈ lw_tg := lw_in (i := 329) (by decide +kernel) rfl
set_option maxRecDepth 100000 in
theorem q_k_RJ6_266 : Cond.constant RJ6 266 (858993459 : Int32) ∈ lw_tg := lw_in (i := 330) (by decide +kernel) rfl
set_option maxRecDepth 100000 in
theorem q_k_RJ6_267 : Cond.constant RJ6 267 (252645135 : Int32) ∈ lw_tg := lw_in (i := 331) (by decide +kernel) rfl
set_option maxRecDepth 100000 in
theorem q_ml_RX5_145 : Cond.methodLink RX5 145 yX3_isUpWithSand ∈ lw_tg := lw_in (i := 332) (by decide +kernel) rfl
set_option maxRecDepth 100000 in
theorem q_im_yX3_isUpWithSand : Cond.instanceMethod yX3_isUpWithSand ∈ lw_tg := lw_in (i := 333) (by decide +kernel) rfl
set_option maxRecDepth 100000 in
theorem q_se_yX3_isUpWithSand : Cond.selects RX3 yX3_isUpWithSand yX3_isUpWithSand ∈ lw_tg := lw_in (i := 334) (by decide +kernel) rfl
set_option maxRecDepth 100000 in
theorem q_co_yX3_isUpWithSand : Cond.code yX3_isUpWithSand cX3_isUpWithSand 5 (some .boolean) ∈ lw_tg := lw_in (i := 335) (by decide +kernel) rfl
set_option maxRecDepth 100000 in
theorem q_ml_RX3_37 : Cond.methodLink RX3 37 yX3_toll ∈ lw_tg := lw_in (i := 336) (by decide +kernel) rfl
set_option maxRecDepth 100000 in
theorem q_ml_RL_58 : Cond.methodLink RL 58 yX5_game ∈ lw_tg := lw_in (i := 337) (by decide +kernel) rfl
set_option maxRecDepth 100000 in
theorem q_im_yX5_game : Cond.instanceMethod yX5_game ∈ lw_tg := lw_in (i := 338) (by decide +kernel) rfl
set_option maxRecDepth 100000 in
theorem q_se_yX5_game : Cond.selects RX5 yX5_game yX5_game ∈ lw_tg := lw_in (i := 339) (by decide +kernel) rfl
set_option maxRecDepth 100000 in
theorem q_co_yX5_game : Cond.code yX5_game cX5_game 5 (some .int) ∈ lw_tg := lw_in (i := 340) (by decide +kernel) rfl
set_option maxRecDepth 100000 in
theorem q_ml_RX5_152 : Cond.methodLink RX5 152 yX5_bestPlay ∈ lw_tg := lw_in (i := 341) (by decide +kernel) rfl
set_option maxRecDepth 100000 in
theorem q_st_yX5_bestPlay : Cond.static yX5_bestPlay ∈ lw_tg := lw_in (i := 342) (by decide +kernel) rfl
set_option maxRecDepth 100000 in
theorem q_co_yX5_bestPlay : Cond.code yX5_bestPlay cX5_bestPlay 11 (some .int) ∈ lw_tg := lw_in (i := 343) (by decide +kernel) rfl
set_option maxRecDepth 100000 in
theorem q_ml_RX5_256 : Cond.methodLink RX5 256 Lib.Math.max.name ∈ lw_tg := lw_in (i := 344) (by decide +kernel) rfl
set_option maxRecDepth 100000 in
theorem q_ml_RX5_189 : Cond.methodLink RX5 189 Lib.Math.min.name ∈ lw_tg := lw_in (i := 345) (by decide +kernel) rfl
set_option maxRecDepth 100000 in
theorem q_ml_RL_62 : Cond.methodLink RL 62 yX5_worth ∈ lw_tg := lw_in (i := 346) (by decide +kernel) rfl
set_option maxRecDepth 100000 in
theorem q_im_yX5_worth : Cond.instanceMethod yX5_worth ∈ lw_tg := lw_in (i := 347) (by decide +kernel) rfl
set_option maxRecDepth 100000 in
theorem q_se_yX5_worth : Cond.selects RX5 yX5_worth yX5_worth ∈ lw_tg := lw_in (i := 348) (by decide +kernel) rfl
set_option maxRecDepth 100000 in
theorem q_co_yX5_worth : Cond.code yX5_worth cX5_worth 2 (some .int) ∈ lw_tg := lw_in (i := 349) (by decide +kernel) rfl
set_option maxRecDepth 100000 in
theorem q_ml_RX5_156 : Cond.methodLink RX5 156 yX5_heightsOfOthers ∈ lw_tg := lw_in (i := 350) (by decide +kernel) rfl
set_option maxRecDepth 100000 in
theorem q_im_yX5_heightsOfOthers : Cond.instanceMethod yX5_heightsOfOthers ∈ lw_tg := lw_in (i := 352) (by decide +kernel) rfl
set_option maxRecDepth 100000 in
theorem q_co_yX5_heightsOfOthers : Cond.code yX5_heightsOfOthers cX5_heightsOfOthers 6 (some .int) ∈ lw_tg := lw_in (i := 353) (by decide +kernel) rfl
set_option maxRecDepth 100000 in
theorem q_ml_RL_66 : Cond.methodLink RL 66 yX5_reading ∈ lw_tg := lw_in (i := 354) (by decide +kernel) rfl
set_option maxRecDepth 100000 in
theorem q_im_yX5_reading : Cond.instanceMethod yX5_reading ∈ lw_tg := lw_in (i := 355) (by decide +kernel) rfl
set_option maxRecDepth 100000 in
theorem q_se_yX5_reading : Cond.selects RX5 yX5_reading yX5_reading ∈ lw_tg := lw_in (i := 356) (by decide +kernel) rfl
set_option maxRecDepth 100000 in
theorem q_co_yX5_reading : Cond.code yX5_reading cX5_reading 3 (some .int) ∈ lw_tg := lw_in (i := 357) (by decide +kernel) rfl
set_option maxRecDepth 100000 in
theorem q_ml_RX5_160 : Cond.methodLink RX5 160 yX1_isFull ∈ lw_tg := lw_in (i := 358) (by decide +kernel) rfl
set_option maxRecDepth 100000 in
theorem q_im_yX1_isFull : Cond.instanceMethod yX1_isFull ∈ lw_tg := lw_in (i := 359) (by decide +kernel) rfl
set_option maxRecDepth 100000 in
theorem q_se_yX1_isFull : Cond.selects RX1 yX1_isFull yX1_isFull ∈ lw_tg := lw_in (i := 360) (by decide +kernel) rfl
set_option maxRecDepth 100000 in
theorem q_co_yX1_isFull : Cond.code yX1_isFull cX1_isFull 1 (some .boolean) ∈ lw_tg := lw_in (i := 361) (by decide +kernel) rfl
set_option maxRecDepth 100000 in
theorem q_ml_RX5_164 : Cond.methodLink RX5 164 yX1_add ∈ lw_tg := lw_in (i := 362) (by decide +kernel) rfl
set_option maxRecDepth 100000 in
theorem q_im_yX1_add : Cond.instanceMethod yX1_add ∈ lw_tg := lw_in (i := 363) (by decide +kernel) rfl
set_option maxRecDepth 100000 in
theorem q_se_yX1_add : Cond.selects RX1 yX1_add yX1_add ∈ lw_tg := lw_in (i := 364) (by decide +kernel) rfl
set_option maxRecDepth 100000 in
theorem q_co_yX1_add : Cond.code yX1_add cX1_add 3 (some .int) ∈ lw_tg := lw_in (i := 365) (by decide +kernel) rfl
set_option maxRecDepth 100000 in
theorem q_ml_RL_70 : Cond.methodLink RL 70 yX5_back ∈ lw_tg := lw_in (i := 366) (by decide +kernel) rfl
set_option maxRecDepth 100000 in
theorem q_im_yX5_back : Cond.instanceMethod yX5_back ∈ lw_tg := lw_in (i := 367) (by decide +kernel) rfl
set_option maxRecDepth 100000 in
theorem q_se_yX5_back : Cond.selects RX5 yX5_back yX5_back ∈ lw_tg := lw_in (i := 368) (by decide +kernel) rfl
set_option maxRecDepth 100000 in
theorem q_co_yX5_back : Cond.code yX5_back cX5_back 2 (some .int) ∈ lw_tg := lw_in (i := 369) (by decide +kernel) rfl
set_option maxRecDepth 100000 in
theorem q_ml_RL_74 : Cond.methodLink RL 74 yX5_speeds ∈ lw_tg := lw_in (i := 370) (by decide +kernel) rfl
set_option maxRecDepth 100000 in
theorem q_im_yX5_speeds : Cond.instanceMethod yX5_speeds ∈ lw_tg := lw_in (i := 371) (by decide +kernel) rfl
set_option maxRecDepth 100000 in
theorem q_se_yX5_speeds : Cond.selects RX5 yX5_speeds yX5_speeds ∈ lw_tg := lw_in (i := 372) (by decide +kernel) rfl
set_option maxRecDepth 100000 in
theorem q_co_yX5_speeds : Cond.code yX5_speeds cX5_speeds 12 (some .int) ∈ lw_tg := lw_in (i := 373) (by decide +kernel) rfl
set_option maxRecDepth 100000 in
theorem q_ml_RX5_168 : Cond.methodLink RX5 168 yX5_readSeen ∈ lw_tg := lw_in (i := 374) (by decide +kernel) rfl
set_option maxRecDepth 100000 in
theorem q_im_yX5_readSeen : Cond.instanceMethod yX5_readSeen ∈ lw_tg := lw_in (i := 376) (by decide +kernel) rfl
set_option maxRecDepth 100000 in
theorem q_co_yX5_readSeen : Cond.code yX5_readSeen cX5_readSeen 7 (some .int) ∈ lw_tg := lw_in (i := 377) (by decide +kernel) rfl
set_option maxRecDepth 100000 in
theorem q_ml_RX5_172 : Cond.methodLink RX5 172 yX5_isSeenWith ∈ lw_tg := lw_in (i := 378) (by decide +kernel) rfl
set_option maxRecDepth 100000 in
theorem q_im_yX5_isSeenWith : Cond.instanceMethod yX5_isSeenWith ∈ lw_tg := lw_in (i := 380) (by decide +kernel) rfl
set_option maxRecDepth 100000 in
theorem q_co_yX5_isSeenWith : Cond.code yX5_isSeenWith cX5_isSeenWith 5 (some .boolean) ∈ lw_tg := lw_in (i := 381) (by decide +kernel) rfl
set_option maxRecDepth 100000 in
theorem q_ml_RX5_259 : Cond.methodLink RX5 259 yX1_areSo ∈ lw_tg := lw_in (i := 382) (by decide +kernel) rfl
set_option maxRecDepth 100000 in
theorem q_im_yX1_areSo : Cond.instanceMethod yX1_areSo ∈ lw_tg := lw_in (i := 383) (by decide +kernel) rfl
set_option maxRecDepth 100000 in
theorem q_se_yX1_areSo : Cond.selects RX1 yX1_areSo yX1_areSo ∈ lw_tg := lw_in (i := 384) (by decide +kernel) rfl
set_option maxRecDepth 100000 in
theorem q_co_yX1_areSo : Cond.code yX1_areSo cX1_areSo 3 (some .boolean) ∈ lw_tg := lw_in (i := 385) (by decide +kernel) rfl
set_option maxRecDepth 100000 in
theorem q_ml_RX1_20 : Cond.methodLink RX1 20 yX0_heightOf ∈ lw_tg := lw_in (i := 386) (by decide +kernel) rfl
set_option maxRecDepth 100000 in
theorem q_ml_RL_79 : Cond.methodLink RL 79 yX5_nails ∈ lw_tg := lw_in (i := 387) (by decide +kernel) rfl
set_option maxRecDepth 100000 in
theorem q_im_yX5_nails : Cond.instanceMethod yX5_nails ∈ lw_tg := lw_in (i := 388) (by decide +kernel) rfl
set_option maxRecDepth 100000 in
theorem q_se_yX5_nails : Cond.selects RX5 yX5_nails yX5_nails ∈ lw_tg := lw_in (i := 389) (by decide +kernel) rfl
set_option maxRecDepth 100000 in
theorem q_co_yX5_nails : Cond.code yX5_nails cX5_nails 7 (some .int) ∈ lw_tg := lw_in (i := 390) (by decide +kernel) rfl
set_option maxRecDepth 100000 in
theorem q_ml_RX5_176 : Cond.methodLink RX5 176 yX5_setSeenWith ∈ lw_tg := lw_in (i := 391) (by decide +kernel) rfl
set_option maxRecDepth 100000 in
theorem q_im_yX5_setSeenWith : Cond.instanceMethod yX5_setSeenWith ∈ lw_tg := lw_in (i := 393) (by decide +kernel) rfl
set_option maxRecDepth 100000 in
theorem q_co_yX5_setSeenWith : Cond.code yX5_setSeenWith cX5_setSeenWith 8 (some .int) ∈ lw_tg := lw_in (i := 394) (by decide +kernel) rfl
set_option maxRecDepth 100000 in
theorem q_ml_RL_83 : Cond.methodLink RL 83 yX5_slicks ∈ lw_tg := lw_in (i := 395) (by decide +kernel) rfl
set_option maxRecDepth 100000 in
theorem q_im_yX5_slicks : Cond.instanceMethod yX5_slicks ∈ lw_tg := lw_in (i := 396) (by decide +kernel) rfl
set_option maxRecDepth 100000 in
theorem q_se_yX5_slicks : Cond.selects RX5 yX5_slicks yX5_slicks ∈ lw_tg := lw_in (i := 397) (by decide +kernel) rfl
set_option maxRecDepth 100000 in
theorem q_co_yX5_slicks : Cond.code yX5_slicks cX5_slicks 7 (some .int) ∈ lw_tg := lw_in (i := 398) (by decide +kernel) rfl
set_option maxRecDepth 100000 in
theorem q_ml_RL_87 : Cond.methodLink RL 87 yX5_kinds ∈ lw_tg := lw_in (i := 399) (by decide +kernel) rfl
set_option maxRecDepth 100000 in
theorem q_im_yX5_kinds : Cond.instanceMethod yX5_kinds ∈ lw_tg := lw_in (i := 400) (by decide +kernel) rfl
set_option maxRecDepth 100000 in
theorem q_se_yX5_kinds : Cond.selects RX5 yX5_kinds yX5_kinds ∈ lw_tg := lw_in (i := 401) (by decide +kernel) rfl
set_option maxRecDepth 100000 in
theorem q_co_yX5_kinds : Cond.code yX5_kinds cX5_kinds 7 (some .int) ∈ lw_tg := lw_in (i := 402) (by decide +kernel) rfl
set_option maxRecDepth 100000 in
theorem q_ml_RL_91 : Cond.methodLink RL 91 yX5_odds ∈ lw_tg := lw_in (i := 403) (by decide +kernel) rfl
set_option maxRecDepth 100000 in
theorem q_im_yX5_odds : Cond.instanceMethod yX5_odds ∈ lw_tg := lw_in (i := 404) (by decide +kernel) rfl
set_option maxRecDepth 100000 in
theorem q_se_yX5_odds : Cond.selects RX5 yX5_odds yX5_odds ∈ lw_tg := lw_in (i := 405) (by decide +kernel) rfl
set_option maxRecDepth 100000 in
theorem q_co_yX5_odds : Cond.code yX5_odds cX5_odds 10 (some .long) ∈ lw_tg := lw_in (i := 406) (by decide +kernel) rfl
set_option maxRecDepth 100000 in
theorem q_k_RX5_180 : Cond.constantLong RX5 180 (-9223372036854775808 : Int64) ∈ lw_tg := lw_in (i := 407) (by decide +kernel) rfl
set_option maxRecDepth 100000 in
theorem q_ml_RX5_182 : Cond.methodLink RX5 182 yX5_weathersUp ∈ lw_tg := lw_in (i := 408) (by decide +kernel) rfl
set_option maxRecDepth 100000 in
theorem q_st_yX5_weathersUp : Cond.static yX5_weathersUp ∈ lw_tg := lw_in (i := 409) (by decide +kernel) rfl
set_option maxRecDepth 100000 in
theorem q_co_yX5_weathersUp : Cond.code yX5_weathersUp cX5_weathersUp 8 (some .int) ∈ lw_tg := lw_in (i := 410) (by decide +kernel) rfl
set_option maxRecDepth 100000 in
theorem q_ml_RX5_186 : Cond.methodLink RX5 186 yJ6_numberOfTrailingZeros_0f7a4 ∈ lw_tg := lw_in (i := 411) (by decide +kernel) rfl
set_option maxRecDepth 100000 in
theorem q_st_yJ6_numberOfTrailingZeros_0f7a4 : Cond.static yJ6_numberOfTrailingZeros_0f7a4 ∈ lw_tg := lw_in (i := 412) (by decide +kernel) rfl
set_option maxRecDepth 100000 in
theorem q_co_yJ6_numberOfTrailingZeros_0f7a4 : Cond.code yJ6_numberOfTrailingZeros_0f7a4 cJ6_numberOfTrailingZeros_0f7a4 2 (some .int) ∈ lw_tg := lw_in (i := 413) (by decide +kernel) rfl
set_option maxRecDepth 100000 in
theorem q_k_RJ6_264 : Cond.constant RJ6 264 (65536 : Int32) ∈ lw_tg := lw_in (i := 414) (by decide +kernel) rfl
set_option maxRecDepth 100000 in
theorem q_ml_RL_96 : Cond.methodLink RL 96 yX5_sheet ∈ lw_tg := lw_in (i := 415) (by decide +kernel) rfl
set_option maxRecDepth 100000 in
theorem q_im_yX5_sheet : Cond.instanceMethod yX5_sheet ∈ lw_tg := lw_in (i := 416) (by decide +kernel) rfl
set_option maxRecDepth 100000 in
theorem q_se_yX5_sheet : Cond.selects RX5 yX5_sheet yX5_sheet ∈ lw_tg := lw_in (i := 417) (by decide +kernel) rfl
set_option maxRecDepth 100000 in
theorem q_co_yX5_sheet : Cond.code yX5_sheet cX5_sheet 4 (some .int) ∈ lw_tg := lw_in (i := 418) (by decide +kernel) rfl
set_option maxRecDepth 100000 in
theorem q_ml_RX5_194 : Cond.methodLink RX5 194 yX2_renew ∈ lw_tg := lw_in (i := 419) (by decide +kernel) rfl
set_option maxRecDepth 100000 in
theorem q_im_yX2_renew : Cond.instanceMethod yX2_renew ∈ lw_tg := lw_in (i := 420) (by decide +kernel) rfl
set_option maxRecDepth 100000 in
theorem q_se_yX2_renew : Cond.selects RX2 yX2_renew yX2_renew ∈ lw_tg := lw_in (i := 421) (by decide +kernel) rfl
set_option maxRecDepth 100000 in
theorem q_co_yX2_renew : Cond.code yX2_renew cX2_renew 3 (none : Option Jvm.ClassFile.FieldType) ∈ lw_tg := lw_in (i := 422) (by decide +kernel) rfl
set_option maxRecDepth 100000 in
theorem q_ml_RX2_22 : Cond.methodLink RX2 22 yJ7_fill_53178 ∈ lw_tg := lw_in (i := 423) (by decide +kernel) rfl
set_option maxRecDepth 100000 in
theorem q_ml_RL_100 : Cond.methodLink RL 100 yX5_lose ∈ lw_tg := lw_in (i := 424) (by decide +kernel) rfl
set_option maxRecDepth 100000 in
theorem q_im_yX5_lose : Cond.instanceMethod yX5_lose ∈ lw_tg := lw_in (i := 425) (by decide +kernel) rfl
set_option maxRecDepth 100000 in
theorem q_se_yX5_lose : Cond.selects RX5 yX5_lose yX5_lose ∈ lw_tg := lw_in (i := 426) (by decide +kernel) rfl
set_option maxRecDepth 100000 in
theorem q_co_yX5_lose : Cond.code yX5_lose cX5_lose 3 (some .int) ∈ lw_tg := lw_in (i := 427) (by decide +kernel) rfl
set_option maxRecDepth 100000 in
theorem q_ml_RL_104 : Cond.methodLink RL 104 yX5_put ∈ lw_tg := lw_in (i := 428) (by decide +kernel) rfl
set_option maxRecDepth 100000 in
theorem q_im_yX5_put : Cond.instanceMethod yX5_put ∈ lw_tg := lw_in (i := 429) (by decide +kernel) rfl
set_option maxRecDepth 100000 in
theorem q_se_yX5_put : Cond.selects RX5 yX5_put yX5_put ∈ lw_tg := lw_in (i := 430) (by decide +kernel) rfl
set_option maxRecDepth 100000 in
theorem q_co_yX5_put : Cond.code yX5_put cX5_put 6 (some .int) ∈ lw_tg := lw_in (i := 431) (by decide +kernel) rfl
set_option maxRecDepth 100000 in
theorem q_ml_RX5_204 : Cond.methodLink RX5 204 yX2_lay ∈ lw_tg := lw_in (i := 432) (by decide +kernel) rfl
set_option maxRecDepth 100000 in
theorem q_im_yX2_lay : Cond.instanceMethod yX2_lay ∈ lw_tg := lw_in (i := 433) (by decide +kernel) rfl
set_option maxRecDepth 100000 in
theorem q_se_yX2_lay : Cond.selects RX2 yX2_lay yX2_lay ∈ lw_tg := lw_in (i := 434) (by decide +kernel) rfl
set_option maxRecDepth 100000 in
theorem q_co_yX2_lay : Cond.code yX2_lay cX2_lay 3 (none : Option Jvm.ClassFile.FieldType) ∈ lw_tg := lw_in (i := 435) (by decide +kernel) rfl
set_option maxRecDepth 100000 in
theorem q_ml_RL_108 : Cond.methodLink RL 108 yX5_cell ∈ lw_tg := lw_in (i := 436) (by decide +kernel) rfl
set_option maxRecDepth 100000 in
theorem q_im_yX5_cell : Cond.instanceMethod yX5_cell ∈ lw_tg := lw_in (i := 437) (by decide +kernel) rfl
set_option maxRecDepth 100000 in
theorem q_se_yX5_cell : Cond.selects RX5 yX5_cell yX5_cell ∈ lw_tg := lw_in (i := 438) (by decide +kernel) rfl
set_option maxRecDepth 100000 in
theorem q_co_yX5_cell : Cond.code yX5_cell cX5_cell 5 (some .long) ∈ lw_tg := lw_in (i := 439) (by decide +kernel) rfl
set_option maxRecDepth 100000 in
theorem q_ml_RL_113 : Cond.methodLink RL 113 yX5_copy ∈ lw_tg := lw_in (i := 440) (by decide +kernel) rfl
set_option maxRecDepth 100000 in
theorem q_im_yX5_copy : Cond.instanceMethod yX5_copy ∈ lw_tg := lw_in (i := 441) (by decide +kernel) rfl
set_option maxRecDepth 100000 in
theorem q_se_yX5_copy : Cond.selects RX5 yX5_copy yX5_copy ∈ lw_tg := lw_in (i := 442) (by decide +kernel) rfl
set_option maxRecDepth 100000 in
theorem q_co_yX5_copy : Cond.code yX5_copy cX5_copy 8 (some .int) ∈ lw_tg := lw_in (i := 443) (by decide +kernel) rfl
set_option maxRecDepth 100000 in
theorem q_ml_RX5_213 : Cond.methodLink RX5 213 arraycopyName ∈ lw_tg := lw_in (i := 444) (by decide +kernel) rfl
set_option maxRecDepth 100000 in
theorem q_ml_RL_117 : Cond.methodLink RL 117 yX5_tell ∈ lw_tg := lw_in (i := 445) (by decide +kernel) rfl
set_option maxRecDepth 100000 in
theorem q_im_yX5_tell : Cond.instanceMethod yX5_tell ∈ lw_tg := lw_in (i := 446) (by decide +kernel) rfl
set_option maxRecDepth 100000 in
theorem q_se_yX5_tell : Cond.selects RX5 yX5_tell yX5_tell ∈ lw_tg := lw_in (i := 447) (by decide +kernel) rfl
set_option maxRecDepth 100000 in
theorem q_co_yX5_tell : Cond.code yX5_tell cX5_tell 2 (some .int) ∈ lw_tg := lw_in (i := 448) (by decide +kernel) rfl
set_option maxRecDepth 100000 in
theorem q_ml_RX5_219 : Cond.methodLink RX5 219 yX5_tellAsLad ∈ lw_tg := lw_in (i := 449) (by decide +kernel) rfl
set_option maxRecDepth 100000 in
theorem q_im_yX5_tellAsLad : Cond.instanceMethod yX5_tellAsLad ∈ lw_tg := lw_in (i := 451) (by decide +kernel) rfl
set_option maxRecDepth 100000 in
theorem q_co_yX5_tellAsLad : Cond.code yX5_tellAsLad cX5_tellAsLad 3 (some .int) ∈ lw_tg := lw_in (i := 452) (by decide +kernel) rfl
set_option maxRecDepth 100000 in
theorem q_ml_RX5_228 : Cond.methodLink RX5 228 yX5_leave ∈ lw_tg := lw_in (i := 453) (by decide +kernel) rfl
set_option maxRecDepth 100000 in
theorem q_im_yX5_leave : Cond.instanceMethod yX5_leave ∈ lw_tg := lw_in (i := 455) (by decide +kernel) rfl
set_option maxRecDepth 100000 in
theorem q_co_yX5_leave : Cond.code yX5_leave cX5_leave 2 (none : Option Jvm.ClassFile.FieldType) ∈ lw_tg := lw_in (i := 456) (by decide +kernel) rfl
set_option maxRecDepth 100000 in
theorem q_ml_RX5_222 : Cond.methodLink RX5 222 yX5_tellAsNight ∈ lw_tg := lw_in (i := 457) (by decide +kernel) rfl
set_option maxRecDepth 100000 in
theorem q_im_yX5_tellAsNight : Cond.instanceMethod yX5_tellAsNight ∈ lw_tg := lw_in (i := 459) (by decide +kernel) rfl
set_option maxRecDepth 100000 in
theorem q_co_yX5_tellAsNight : Cond.code yX5_tellAsNight cX5_tellAsNight 2 (some .int) ∈ lw_tg := lw_in (i := 460) (by decide +kernel) rfl
set_option maxRecDepth 100000 in
theorem q_ml_RX5_225 : Cond.methodLink RX5 225 yX5_tellAsRider ∈ lw_tg := lw_in (i := 461) (by decide +kernel) rfl
set_option maxRecDepth 100000 in
theorem q_im_yX5_tellAsRider : Cond.instanceMethod yX5_tellAsRider ∈ lw_tg := lw_in (i := 463) (by decide +kernel) rfl
set_option maxRecDepth 100000 in
theorem q_co_yX5_tellAsRider : Cond.code yX5_tellAsRider cX5_tellAsRider 2 (some .int) ∈ lw_tg := lw_in (i := 464) (by decide +kernel) rfl
set_option maxRecDepth 100000 in
theorem q_ml_RL_121 : Cond.methodLink RL 121 yX5_cheer ∈ lw_tg := lw_in (i := 465) (by decide +kernel) rfl
set_option maxRecDepth 100000 in
theorem q_im_yX5_cheer : Cond.instanceMethod yX5_cheer ∈ lw_tg := lw_in (i := 466) (by decide +kernel) rfl
set_option maxRecDepth 100000 in
theorem q_se_yX5_cheer : Cond.selects RX5 yX5_cheer yX5_cheer ∈ lw_tg := lw_in (i := 467) (by decide +kernel) rfl
set_option maxRecDepth 100000 in
theorem q_co_yX5_cheer : Cond.code yX5_cheer cX5_cheer 2 (some .int) ∈ lw_tg := lw_in (i := 468) (by decide +kernel) rfl
set_option maxRecDepth 100000 in
theorem q_ml_RL_125 : Cond.methodLink RL 125 yX5_as ∈ lw_tg := lw_in (i := 469) (by decide +kernel) rfl
set_option maxRecDepth 100000 in
theorem q_im_yX5_as : Cond.instanceMethod yX5_as ∈ lw_tg := lw_in (i := 470) (by decide +kernel) rfl
set_option maxRecDepth 100000 in
theorem q_se_yX5_as : Cond.selects RX5 yX5_as yX5_as ∈ lw_tg := lw_in (i := 471) (by decide +kernel) rfl
set_option maxRecDepth 100000 in
theorem q_co_yX5_as : Cond.code yX5_as cX5_as 3 (some .int) ∈ lw_tg := lw_in (i := 472) (by decide +kernel) rfl
set_option maxRecDepth 100000 in
theorem q_ml_RL_129 : Cond.methodLink RL 129 yX5_trace ∈ lw_tg := lw_in (i := 473) (by decide +kernel) rfl
set_option maxRecDepth 100000 in
theorem q_im_yX5_trace : Cond.instanceMethod yX5_trace ∈ lw_tg := lw_in (i := 474) (by decide +kernel) rfl
set_option maxRecDepth 100000 in
theorem q_se_yX5_trace : Cond.selects RX5 yX5_trace yX5_trace ∈ lw_tg := lw_in (i := 475) (by decide +kernel) rfl
set_option maxRecDepth 100000 in
theorem q_co_yX5_trace : Cond.code yX5_trace cX5_trace 1 (some .int) ∈ lw_tg := lw_in (i := 476) (by decide +kernel) rfl
set_option maxRecDepth 100000 in
theorem q_ml_RL_134 : Cond.methodLink RL 134 yX5_fault ∈ lw_tg := lw_in (i := 477) (by decide +kernel) rfl
set_option maxRecDepth 100000 in
theorem q_im_yX5_fault : Cond.instanceMethod yX5_fault ∈ lw_tg := lw_in (i := 478) (by decide +kernel) rfl
set_option maxRecDepth 100000 in
theorem q_se_yX5_fault : Cond.selects RX5 yX5_fault yX5_fault ∈ lw_tg := lw_in (i := 479) (by decide +kernel) rfl
set_option maxRecDepth 100000 in
theorem q_co_yX5_fault : Cond.code yX5_fault cX5_fault 1 (some .int) ∈ lw_tg := lw_in (i := 480) (by decide +kernel) rfl
set_option maxRecDepth 100000 in
theorem q_ml_RL_138 : Cond.methodLink RL 138 yX5_many ∈ lw_tg := lw_in (i := 481) (by decide +kernel) rfl
set_option maxRecDepth 100000 in
theorem q_im_yX5_many : Cond.instanceMethod yX5_many ∈ lw_tg := lw_in (i := 482) (by decide +kernel) rfl
set_option maxRecDepth 100000 in
theorem q_se_yX5_many : Cond.selects RX5 yX5_many yX5_many ∈ lw_tg := lw_in (i := 483) (by decide +kernel) rfl
set_option maxRecDepth 100000 in
theorem q_co_yX5_many : Cond.code yX5_many cX5_many 2 (some .int) ∈ lw_tg := lw_in (i := 484) (by decide +kernel) rfl
set_option maxRecDepth 100000 in
theorem q_cl_RL_10 : Cond.classLink RL 10 RX6 ∈ lw_tg := lw_in (i := 485) (by decide +kernel) rfl
set_option maxRecDepth 100000 in
theorem q_is_RX6 : Cond.instantiable RX6 30 ∈ lw_tg := lw_in (i := 486) (by decide +kernel) rfl
set_option maxRecDepth 100000 in
theorem q_ml_RL_12 : Cond.methodLink RL 12 yX6_init ∈ lw_tg := lw_in (i := 487) (by decide +kernel) rfl
set_option maxRecDepth 100000 in
theorem q_im_yX6_init : Cond.instanceMethod yX6_init ∈ lw_tg := lw_in (i := 488) (by decide +kernel) rfl
set_option maxRecDepth 100000 in
theorem q_co_yX6_init : Cond.code yX6_init cX6_init 1 (none : Option Jvm.ClassFile.FieldType) ∈ lw_tg := lw_in (i := 489) (by decide +kernel) rfl
set_option maxRecDepth 100000 in
theorem q_ml_RX6_1 : Cond.methodLink RX6 1 objectInit ∈ lw_tg := lw_in (i := 490) (by decide +kernel) rfl
set_option maxRecDepth 100000 in
theorem q_fl_RX6_61 : Cond.fieldLink RX6 61 "GlassHillModel" "fault" "I" ∈ lw_tg := lw_in (i := 491) (by decide +kernel) rfl
set_option maxRecDepth 100000 in
theorem q_fl_RX6_213 : Cond.fieldLink RX6 213 "GlassHillModel" "trace" "I" ∈ lw_tg := lw_in (i := 492) (by decide +kernel) rfl
set_option maxRecDepth 100000 in
theorem q_fl_RX6_9 : Cond.fieldLink RX6 9 "GlassHillModel" "sorts" "[I" ∈ lw_tg := lw_in (i := 493) (by decide +kernel) rfl
set_option maxRecDepth 100000 in
theorem q_fl_RX6_13 : Cond.fieldLink RX6 13 "GlassHillModel" "sheetLong" "[I" ∈ lw_tg := lw_in (i := 494) (by decide +kernel) rfl
set_option maxRecDepth 100000 in
theorem q_fl_RX6_16 : Cond.fieldLink RX6 16 "GlassHillModel" "cells" "[I" ∈ lw_tg := lw_in (i := 495) (by decide +kernel) rfl
set_option maxRecDepth 100000 in
theorem q_fl_RX6_71 : Cond.fieldLink RX6 71 "GlassHillModel" "paces" "I" ∈ lw_tg := lw_in (i := 496) (by decide +kernel) rfl
set_option maxRecDepth 100000 in
theorem q_fl_RX6_74 : Cond.fieldLink RX6 74 "GlassHillModel" "riders" "I" ∈ lw_tg := lw_in (i := 497) (by decide +kernel) rfl
set_option maxRecDepth 100000 in
theorem q_fl_RX6_19 : Cond.fieldLink RX6 19 "GlassHillModel" "slick" "[I" ∈ lw_tg := lw_in (i := 498) (by decide +kernel) rfl
set_option maxRecDepth 100000 in
theorem q_fl_RX6_22 : Cond.fieldLink RX6 22 "GlassHillModel" "ahead" "[I" ∈ lw_tg := lw_in (i := 499) (by decide +kernel) rfl
set_option maxRecDepth 100000 in
theorem q_fl_RX6_25 : Cond.fieldLink RX6 25 "GlassHillModel" "kind" "[I" ∈ lw_tg := lw_in (i := 500) (by decide +kernel) rfl
set_option maxRecDepth 100000 in
theorem q_fl_RX6_28 : Cond.fieldLink RX6 28 "GlassHillModel" "speedOf" "[I" ∈ lw_tg := lw_in (i := 501) (by decide +kernel) rfl
set_option maxRecDepth 100000 in
theorem q_fl_RX6_31 : Cond.fieldLink RX6 31 "GlassHillModel" "nailsOf" "[I" ∈ lw_tg := lw_in (i := 502) (by decide +kernel) rfl
set_option maxRecDepth 100000 in
theorem q_fl_RX6_77 : Cond.fieldLink RX6 77 "GlassHillModel" "at" "I" ∈ lw_tg := lw_in (i := 503) (by decide +kernel) rfl
set_option maxRecDepth 100000 in
theorem q_fl_RX6_98 : Cond.fieldLink RX6 98 "GlassHillModel" "readPaces" "I" ∈ lw_tg := lw_in (i := 504) (by decide +kernel) rfl
set_option maxRecDepth 100000 in
theorem q_fl_RX6_101 : Cond.fieldLink RX6 101 "GlassHillModel" "readMany" "I" ∈ lw_tg := lw_in (i := 505) (by decide +kernel) rfl
set_option maxRecDepth 100000 in
theorem q_fl_RX6_34 : Cond.fieldLink RX6 34 "GlassHillModel" "readSlick" "[I" ∈ lw_tg := lw_in (i := 506) (by decide +kernel) rfl
set_option maxRecDepth 100000 in
theorem q_fl_RX6_37 : Cond.fieldLink RX6 37 "GlassHillModel" "read" "[I" ∈ lw_tg := lw_in (i := 507) (by decide +kernel) rfl
set_option maxRecDepth 100000 in
theorem q_fl_RX6_40 : Cond.fieldLink RX6 40 "GlassHillModel" "scratches" "[I" ∈ lw_tg := lw_in (i := 508) (by decide +kernel) rfl
set_option maxRecDepth 100000 in
theorem q_fl_RX6_43 : Cond.fieldLink RX6 43 "GlassHillModel" "tries" "[I" ∈ lw_tg := lw_in (i := 509) (by decide +kernel) rfl
set_option maxRecDepth 100000 in
theorem q_fl_RX6_46 : Cond.fieldLink RX6 46 "GlassHillModel" "height" "[I" ∈ lw_tg := lw_in (i := 510) (by decide +kernel) rfl
set_option maxRecDepth 100000 in
theorem q_fl_RX6_130 : Cond.fieldLink RX6 130 "GlassHillModel" "up" "I" ∈ lw_tg := lw_in (i := 511) (by decide +kernel) rfl
set_option maxRecDepth 100000 in
theorem q_fl_RX6_133 : Cond.fieldLink RX6 133 "GlassHillModel" "steps" "I" ∈ lw_tg := lw_in (i := 512) (by decide +kernel) rfl
set_option maxRecDepth 100000 in
theorem q_fl_RX6_49 : Cond.fieldLink RX6 49 "GlassHillModel" "step" "[I" ∈ lw_tg := lw_in (i := 513) (by decide +kernel) rfl
set_option maxRecDepth 100000 in
theorem q_fl_RX6_139 : Cond.fieldLink RX6 139 "GlassHillModel" "firstUp" "I" ∈ lw_tg := lw_in (i := 514) (by decide +kernel) rfl
set_option maxRecDepth 100000 in
theorem q_fl_RX6_165 : Cond.fieldLink RX6 165 "GlassHillModel" "foundLong" "I" ∈ lw_tg := lw_in (i := 515) (by decide +kernel) rfl
set_option maxRecDepth 100000 in
theorem q_fl_RX6_172 : Cond.fieldLink RX6 172 "GlassHillModel" "foundNumber" "I" ∈ lw_tg := lw_in (i := 516) (by decide +kernel) rfl
set_option maxRecDepth 100000 in
theorem q_fl_RX6_52 : Cond.fieldLink RX6 52 "GlassHillModel" "ends" "[I" ∈ lw_tg := lw_in (i := 517) (by decide +kernel) rfl
set_option maxRecDepth 100000 in
theorem q_fl_RX6_104 : Cond.fieldLink RX6 104 "GlassHillModel" "readings" "I" ∈ lw_tg := lw_in (i := 518) (by decide +kernel) rfl
set_option maxRecDepth 100000 in
theorem q_fl_RX6_55 : Cond.fieldLink RX6 55 "GlassHillModel" "readRiderOf" "[I" ∈ lw_tg := lw_in (i := 519) (by decide +kernel) rfl
set_option maxRecDepth 100000 in
theorem q_fl_RX6_58 : Cond.fieldLink RX6 58 "GlassHillModel" "readHeight" "[I" ∈ lw_tg := lw_in (i := 520) (by decide +kernel) rfl
set_option maxRecDepth 100000 in
theorem q_ml_RL_17 : Cond.methodLink RL 17 yX6_hill ∈ lw_tg := lw_in (i := 582) (by decide +kernel) rfl
set_option maxRecDepth 100000 in
theorem q_im_yX6_hill : Cond.instanceMethod yX6_hill ∈ lw_tg := lw_in (i := 583) (by decide +kernel) rfl
set_option maxRecDepth 100000 in
theorem q_se_yX6_hill : Cond.selects RX6 yX6_hill yX6_hill ∈ lw_tg := lw_in (i := 584) (by decide +kernel) rfl
set_option maxRecDepth 100000 in
theorem q_co_yX6_hill : Cond.code yX6_hill cX6_hill 8 (some .int) ∈ lw_tg := lw_in (i := 585) (by decide +kernel) rfl
set_option maxRecDepth 100000 in
theorem q_ml_RX6_80 : Cond.methodLink RX6 80 yX6_isSheet ∈ lw_tg := lw_in (i := 586) (by decide +kernel) rfl
set_option maxRecDepth 100000 in
theorem q_st_yX6_isSheet : Cond.static yX6_isSheet ∈ lw_tg := lw_in (i := 587) (by decide +kernel) rfl
set_option maxRecDepth 100000 in
theorem q_co_yX6_isSheet : Cond.code yX6_isSheet cX6_isSheet 1 (some .boolean) ∈ lw_tg := lw_in (i := 588) (by decide +kernel) rfl
set_option maxRecDepth 100000 in
theorem q_ml_RX6_67 : Cond.methodLink RX6 67 yX6_within ∈ lw_tg := lw_in (i := 589) (by decide +kernel) rfl
set_option maxRecDepth 100000 in
theorem q_st_yX6_within : Cond.static yX6_within ∈ lw_tg := lw_in (i := 590) (by decide +kernel) rfl
set_option maxRecDepth 100000 in
theorem q_co_yX6_within : Cond.code yX6_within cX6_within 3 (some .boolean) ∈ lw_tg := lw_in (i := 591) (by decide +kernel) rfl
set_option maxRecDepth 100000 in
theorem q_ml_RX6_84 : Cond.methodLink RX6 84 yX6_isSort ∈ lw_tg := lw_in (i := 592) (by decide +kernel) rfl
set_option maxRecDepth 100000 in
theorem q_st_yX6_isSort : Cond.static yX6_isSort ∈ lw_tg := lw_in (i := 593) (by decide +kernel) rfl
set_option maxRecDepth 100000 in
theorem q_co_yX6_isSort : Cond.code yX6_isSort cX6_isSort 1 (some .boolean) ∈ lw_tg := lw_in (i := 594) (by decide +kernel) rfl
set_option maxRecDepth 100000 in
theorem q_ml_RX6_87 : Cond.methodLink RX6 87 yX6_against ∈ lw_tg := lw_in (i := 595) (by decide +kernel) rfl
set_option maxRecDepth 100000 in
theorem q_im_yX6_against : Cond.instanceMethod yX6_against ∈ lw_tg := lw_in (i := 597) (by decide +kernel) rfl
set_option maxRecDepth 100000 in
theorem q_co_yX6_against : Cond.code yX6_against cX6_against 5 (some .int) ∈ lw_tg := lw_in (i := 598) (by decide +kernel) rfl
set_option maxRecDepth 100000 in
theorem q_ml_RX6_91 : Cond.methodLink RX6 91 yX6_fails ∈ lw_tg := lw_in (i := 599) (by decide +kernel) rfl
set_option maxRecDepth 100000 in
theorem q_im_yX6_fails : Cond.instanceMethod yX6_fails ∈ lw_tg := lw_in (i := 601) (by decide +kernel) rfl
set_option maxRecDepth 100000 in
theorem q_co_yX6_fails : Cond.code yX6_fails cX6_fails 2 (some .int) ∈ lw_tg := lw_in (i := 602) (by decide +kernel) rfl
set_option maxRecDepth 100000 in
theorem q_ml_RX6_95 : Cond.methodLink RX6 95 yX6_readHill ∈ lw_tg := lw_in (i := 603) (by decide +kernel) rfl
set_option maxRecDepth 100000 in
theorem q_im_yX6_readHill : Cond.instanceMethod yX6_readHill ∈ lw_tg := lw_in (i := 605) (by decide +kernel) rfl
set_option maxRecDepth 100000 in
theorem q_co_yX6_readHill : Cond.code yX6_readHill cX6_readHill 3 (some .boolean) ∈ lw_tg := lw_in (i := 606) (by decide +kernel) rfl
set_option maxRecDepth 100000 in
theorem q_ml_RX6_107 : Cond.methodLink RX6 107 yX6_isSign ∈ lw_tg := lw_in (i := 607) (by decide +kernel) rfl
set_option maxRecDepth 100000 in
theorem q_im_yX6_isSign : Cond.instanceMethod yX6_isSign ∈ lw_tg := lw_in (i := 609) (by decide +kernel) rfl
set_option maxRecDepth 100000 in
theorem q_co_yX6_isSign : Cond.code yX6_isSign cX6_isSign 3 (some .boolean) ∈ lw_tg := lw_in (i := 610) (by decide +kernel) rfl
set_option maxRecDepth 100000 in
theorem q_ml_RX6_111 : Cond.methodLink RX6 111 yX6_digit ∈ lw_tg := lw_in (i := 611) (by decide +kernel) rfl
set_option maxRecDepth 100000 in
theorem q_im_yX6_digit : Cond.instanceMethod yX6_digit ∈ lw_tg := lw_in (i := 613) (by decide +kernel) rfl
set_option maxRecDepth 100000 in
theorem q_co_yX6_digit : Cond.code yX6_digit cX6_digit 4 (some .int) ∈ lw_tg := lw_in (i := 614) (by decide +kernel) rfl
set_option maxRecDepth 100000 in
theorem q_ml_RX6_115 : Cond.methodLink RX6 115 yX6_readRider ∈ lw_tg := lw_in (i := 615) (by decide +kernel) rfl
set_option maxRecDepth 100000 in
theorem q_im_yX6_readRider : Cond.instanceMethod yX6_readRider ∈ lw_tg := lw_in (i := 617) (by decide +kernel) rfl
set_option maxRecDepth 100000 in
theorem q_co_yX6_readRider : Cond.code yX6_readRider cX6_readRider 6 (some .boolean) ∈ lw_tg := lw_in (i := 618) (by decide +kernel) rfl
set_option maxRecDepth 100000 in
theorem q_ml_RL_22 : Cond.methodLink RL 22 yX6_ofPace ∈ lw_tg := lw_in (i := 619) (by decide +kernel) rfl
set_option maxRecDepth 100000 in
theorem q_im_yX6_ofPace : Cond.instanceMethod yX6_ofPace ∈ lw_tg := lw_in (i := 620) (by decide +kernel) rfl
set_option maxRecDepth 100000 in
theorem q_se_yX6_ofPace : Cond.selects RX6 yX6_ofPace yX6_ofPace ∈ lw_tg := lw_in (i := 621) (by decide +kernel) rfl
set_option maxRecDepth 100000 in
theorem q_co_yX6_ofPace : Cond.code yX6_ofPace cX6_ofPace 3 (some .int) ∈ lw_tg := lw_in (i := 622) (by decide +kernel) rfl
set_option maxRecDepth 100000 in
theorem q_ml_RX6_118 : Cond.methodLink RX6 118 yX6_isPace ∈ lw_tg := lw_in (i := 623) (by decide +kernel) rfl
set_option maxRecDepth 100000 in
theorem q_im_yX6_isPace : Cond.instanceMethod yX6_isPace ∈ lw_tg := lw_in (i := 625) (by decide +kernel) rfl
set_option maxRecDepth 100000 in
theorem q_co_yX6_isPace : Cond.code yX6_isPace cX6_isPace 2 (some .boolean) ∈ lw_tg := lw_in (i := 626) (by decide +kernel) rfl
set_option maxRecDepth 100000 in
theorem q_ml_RL_26 : Cond.methodLink RL 26 yX6_ofRider ∈ lw_tg := lw_in (i := 627) (by decide +kernel) rfl
set_option maxRecDepth 100000 in
theorem q_im_yX6_ofRider : Cond.instanceMethod yX6_ofRider ∈ lw_tg := lw_in (i := 628) (by decide +kernel) rfl
set_option maxRecDepth 100000 in
theorem q_se_yX6_ofRider : Cond.selects RX6 yX6_ofRider yX6_ofRider ∈ lw_tg := lw_in (i := 629) (by decide +kernel) rfl
set_option maxRecDepth 100000 in
theorem q_co_yX6_ofRider : Cond.code yX6_ofRider cX6_ofRider 3 (some .int) ∈ lw_tg := lw_in (i := 630) (by decide +kernel) rfl
set_option maxRecDepth 100000 in
theorem q_ml_RX6_121 : Cond.methodLink RX6 121 yX6_isRider ∈ lw_tg := lw_in (i := 631) (by decide +kernel) rfl
set_option maxRecDepth 100000 in
theorem q_im_yX6_isRider : Cond.instanceMethod yX6_isRider ∈ lw_tg := lw_in (i := 633) (by decide +kernel) rfl
set_option maxRecDepth 100000 in
theorem q_co_yX6_isRider : Cond.code yX6_isRider cX6_isRider 2 (some .boolean) ∈ lw_tg := lw_in (i := 634) (by decide +kernel) rfl
set_option maxRecDepth 100000 in
theorem q_ml_RL_30 : Cond.methodLink RL 30 yX6_scratch ∈ lw_tg := lw_in (i := 635) (by decide +kernel) rfl
set_option maxRecDepth 100000 in
theorem q_im_yX6_scratch : Cond.instanceMethod yX6_scratch ∈ lw_tg := lw_in (i := 636) (by decide +kernel) rfl
set_option maxRecDepth 100000 in
theorem q_se_yX6_scratch : Cond.selects RX6 yX6_scratch yX6_scratch ∈ lw_tg := lw_in (i := 637) (by decide +kernel) rfl
set_option maxRecDepth 100000 in
theorem q_co_yX6_scratch : Cond.code yX6_scratch cX6_scratch 4 (some .int) ∈ lw_tg := lw_in (i := 638) (by decide +kernel) rfl
set_option maxRecDepth 100000 in
theorem q_ml_RX6_124 : Cond.methodLink RX6 124 yX6_isNine ∈ lw_tg := lw_in (i := 639) (by decide +kernel) rfl
set_option maxRecDepth 100000 in
theorem q_st_yX6_isNine : Cond.static yX6_isNine ∈ lw_tg := lw_in (i := 640) (by decide +kernel) rfl
set_option maxRecDepth 100000 in
theorem q_co_yX6_isNine : Cond.code yX6_isNine cX6_isNine 1 (some .boolean) ∈ lw_tg := lw_in (i := 641) (by decide +kernel) rfl
set_option maxRecDepth 100000 in
theorem q_ml_RL_34 : Cond.methodLink RL 34 yX6_speed ∈ lw_tg := lw_in (i := 642) (by decide +kernel) rfl
set_option maxRecDepth 100000 in
theorem q_im_yX6_speed : Cond.instanceMethod yX6_speed ∈ lw_tg := lw_in (i := 643) (by decide +kernel) rfl
set_option maxRecDepth 100000 in
theorem q_se_yX6_speed : Cond.selects RX6 yX6_speed yX6_speed ∈ lw_tg := lw_in (i := 644) (by decide +kernel) rfl
set_option maxRecDepth 100000 in
theorem q_co_yX6_speed : Cond.code yX6_speed cX6_speed 4 (some .int) ∈ lw_tg := lw_in (i := 645) (by decide +kernel) rfl
set_option maxRecDepth 100000 in
theorem q_ml_RL_38 : Cond.methodLink RL 38 yX6_shoe ∈ lw_tg := lw_in (i := 646) (by decide +kernel) rfl
set_option maxRecDepth 100000 in
theorem q_im_yX6_shoe : Cond.instanceMethod yX6_shoe ∈ lw_tg := lw_in (i := 647) (by decide +kernel) rfl
set_option maxRecDepth 100000 in
theorem q_se_yX6_shoe : Cond.selects RX6 yX6_shoe yX6_shoe ∈ lw_tg := lw_in (i := 648) (by decide +kernel) rfl
set_option maxRecDepth 100000 in
theorem q_co_yX6_shoe : Cond.code yX6_shoe cX6_shoe 4 (some .int) ∈ lw_tg := lw_in (i := 649) (by decide +kernel) rfl
set_option maxRecDepth 100000 in
theorem q_ml_RL_43 : Cond.methodLink RL 43 yX6_takes ∈ lw_tg := lw_in (i := 650) (by decide +kernel) rfl
set_option maxRecDepth 100000 in
theorem q_im_yX6_takes : Cond.instanceMethod yX6_takes ∈ lw_tg := lw_in (i := 651) (by decide +kernel) rfl
set_option maxRecDepth 100000 in
theorem q_se_yX6_takes : Cond.selects RX6 yX6_takes yX6_takes ∈ lw_tg := lw_in (i := 652) (by decide +kernel) rfl
set_option maxRecDepth 100000 in
theorem q_co_yX6_takes : Cond.code yX6_takes cX6_takes 4 (some .int) ∈ lw_tg := lw_in (i := 653) (by decide +kernel) rfl
set_option maxRecDepth 100000 in
theorem q_ml_RX6_127 : Cond.methodLink RX6 127 yX6_takesOf ∈ lw_tg := lw_in (i := 654) (by decide +kernel) rfl
set_option maxRecDepth 100000 in
theorem q_im_yX6_takesOf : Cond.instanceMethod yX6_takesOf ∈ lw_tg := lw_in (i := 656) (by decide +kernel) rfl
set_option maxRecDepth 100000 in
theorem q_co_yX6_takesOf : Cond.code yX6_takesOf cX6_takesOf 5 (some .int) ∈ lw_tg := lw_in (i := 657) (by decide +kernel) rfl
set_option maxRecDepth 100000 in
theorem q_ml_RL_48 : Cond.methodLink RL 48 yX6_days ∈ lw_tg := lw_in (i := 658) (by decide +kernel) rfl
set_option maxRecDepth 100000 in
theorem q_im_yX6_days : Cond.instanceMethod yX6_days ∈ lw_tg := lw_in (i := 659) (by decide +kernel) rfl
set_option maxRecDepth 100000 in
theorem q_se_yX6_days : Cond.selects RX6 yX6_days yX6_days ∈ lw_tg := lw_in (i := 660) (by decide +kernel) rfl
set_option maxRecDepth 100000 in
theorem q_co_yX6_days : Cond.code yX6_days cX6_days 8 (some .int) ∈ lw_tg := lw_in (i := 661) (by decide +kernel) rfl
set_option maxRecDepth 100000 in
theorem q_ml_RX6_152 : Cond.methodLink RX6 152 yX6_isRow ∈ lw_tg := lw_in (i := 662) (by decide +kernel) rfl
set_option maxRecDepth 100000 in
theorem q_st_yX6_isRow : Cond.static yX6_isRow ∈ lw_tg := lw_in (i := 663) (by decide +kernel) rfl
set_option maxRecDepth 100000 in
theorem q_co_yX6_isRow : Cond.code yX6_isRow cX6_isRow 2 (some .boolean) ∈ lw_tg := lw_in (i := 664) (by decide +kernel) rfl
set_option maxRecDepth 100000 in
theorem q_ml_RX6_155 : Cond.methodLink RX6 155 yX6_laySteps ∈ lw_tg := lw_in (i := 665) (by decide +kernel) rfl
set_option maxRecDepth 100000 in
theorem q_im_yX6_laySteps : Cond.instanceMethod yX6_laySteps ∈ lw_tg := lw_in (i := 667) (by decide +kernel) rfl
set_option maxRecDepth 100000 in
theorem q_co_yX6_laySteps : Cond.code yX6_laySteps cX6_laySteps 8 (some .int) ∈ lw_tg := lw_in (i := 668) (by decide +kernel) rfl
set_option maxRecDepth 100000 in
theorem q_ml_RX6_158 : Cond.methodLink RX6 158 yX6_go ∈ lw_tg := lw_in (i := 669) (by decide +kernel) rfl
set_option maxRecDepth 100000 in
theorem q_im_yX6_go : Cond.instanceMethod yX6_go ∈ lw_tg := lw_in (i := 671) (by decide +kernel) rfl
set_option maxRecDepth 100000 in
theorem q_co_yX6_go : Cond.code yX6_go cX6_go 2 (some .int) ∈ lw_tg := lw_in (i := 672) (by decide +kernel) rfl
set_option maxRecDepth 100000 in
theorem q_ml_RX6_136 : Cond.methodLink RX6 136 yX6_begin ∈ lw_tg := lw_in (i := 673) (by decide +kernel) rfl
set_option maxRecDepth 100000 in
theorem q_im_yX6_begin : Cond.instanceMethod yX6_begin ∈ lw_tg := lw_in (i := 675) (by decide +kernel) rfl
set_option maxRecDepth 100000 in
theorem q_co_yX6_begin : Cond.code yX6_begin cX6_begin 2 (none : Option Jvm.ClassFile.FieldType) ∈ lw_tg := lw_in (i := 676) (by decide +kernel) rfl
set_option maxRecDepth 100000 in
theorem q_ml_RX6_142 : Cond.methodLink RX6 142 yX6_rain ∈ lw_tg := lw_in (i := 677) (by decide +kernel) rfl
set_option maxRecDepth 100000 in
theorem q_im_yX6_rain : Cond.instanceMethod yX6_rain ∈ lw_tg := lw_in (i := 679) (by decide +kernel) rfl
set_option maxRecDepth 100000 in
theorem q_co_yX6_rain : Cond.code yX6_rain cX6_rain 2 (none : Option Jvm.ClassFile.FieldType) ∈ lw_tg := lw_in (i := 680) (by decide +kernel) rfl
set_option maxRecDepth 100000 in
theorem q_ml_RX6_145 : Cond.methodLink RX6 145 yX6_isUp ∈ lw_tg := lw_in (i := 681) (by decide +kernel) rfl
set_option maxRecDepth 100000 in
theorem q_im_yX6_isUp : Cond.instanceMethod yX6_isUp ∈ lw_tg := lw_in (i := 683) (by decide +kernel) rfl
set_option maxRecDepth 100000 in
theorem q_co_yX6_isUp : Cond.code yX6_isUp cX6_isUp 2 (some .boolean) ∈ lw_tg := lw_in (i := 684) (by decide +kernel) rfl
set_option maxRecDepth 100000 in
theorem q_ml_RX6_148 : Cond.methodLink RX6 148 yX6_tryOnce ∈ lw_tg := lw_in (i := 685) (by decide +kernel) rfl
set_option maxRecDepth 100000 in
theorem q_im_yX6_tryOnce : Cond.instanceMethod yX6_tryOnce ∈ lw_tg := lw_in (i := 687) (by decide +kernel) rfl
set_option maxRecDepth 100000 in
theorem q_co_yX6_tryOnce : Cond.code yX6_tryOnce cX6_tryOnce 6 (none : Option Jvm.ClassFile.FieldType) ∈ lw_tg := lw_in (i := 688) (by decide +kernel) rfl
set_option maxRecDepth 100000 in
theorem q_ml_RX6_162 : Cond.methodLink RX6 162 yX6_tellDays ∈ lw_tg := lw_in (i := 689) (by decide +kernel) rfl
set_option maxRecDepth 100000 in
theorem q_im_yX6_tellDays : Cond.instanceMethod yX6_tellDays ∈ lw_tg := lw_in (i := 691) (by decide +kernel) rfl
set_option maxRecDepth 100000 in
theorem q_co_yX6_tellDays : Cond.code yX6_tellDays cX6_tellDays 2 (some .int) ∈ lw_tg := lw_in (i := 692) (by decide +kernel) rfl
set_option maxRecDepth 100000 in
theorem q_ml_RL_52 : Cond.methodLink RL 52 yX6_fewest ∈ lw_tg := lw_in (i := 693) (by decide +kernel) rfl
set_option maxRecDepth 100000 in
theorem q_im_yX6_fewest : Cond.instanceMethod yX6_fewest ∈ lw_tg := lw_in (i := 694) (by decide +kernel) rfl
set_option maxRecDepth 100000 in
theorem q_se_yX6_fewest : Cond.selects RX6 yX6_fewest yX6_fewest ∈ lw_tg := lw_in (i := 695) (by decide +kernel) rfl
set_option maxRecDepth 100000 in
theorem q_co_yX6_fewest : Cond.code yX6_fewest cX6_fewest 3 (some .int) ∈ lw_tg := lw_in (i := 696) (by decide +kernel) rfl
set_option maxRecDepth 100000 in
theorem q_ml_RX6_175 : Cond.methodLink RX6 175 yX6_findFewest ∈ lw_tg := lw_in (i := 697) (by decide +kernel) rfl
set_option maxRecDepth 100000 in
theorem q_im_yX6_findFewest : Cond.instanceMethod yX6_findFewest ∈ lw_tg := lw_in (i := 699) (by decide +kernel) rfl
set_option maxRecDepth 100000 in
theorem q_co_yX6_findFewest : Cond.code yX6_findFewest cX6_findFewest 5 (none : Option Jvm.ClassFile.FieldType) ∈ lw_tg := lw_in (i := 700) (by decide +kernel) rfl
set_option maxRecDepth 100000 in
theorem q_ml_RX6_168 : Cond.methodLink RX6 168 yX6_layRow ∈ lw_tg := lw_in (i := 701) (by decide +kernel) rfl
set_option maxRecDepth 100000 in
theorem q_im_yX6_layRow : Cond.instanceMethod yX6_layRow ∈ lw_tg := lw_in (i := 703) (by decide +kernel) rfl
set_option maxRecDepth 100000 in
theorem q_co_yX6_layRow : Cond.code yX6_layRow cX6_layRow 5 (none : Option Jvm.ClassFile.FieldType) ∈ lw_tg := lw_in (i := 704) (by decide +kernel) rfl
set_option maxRecDepth 100000 in
theorem q_ml_RL_57 : Cond.methodLink RL 57 yX6_sand ∈ lw_tg := lw_in (i := 705) (by decide +kernel) rfl
set_option maxRecDepth 100000 in
theorem q_im_yX6_sand : Cond.instanceMethod yX6_sand ∈ lw_tg := lw_in (i := 706) (by decide +kernel) rfl
set_option maxRecDepth 100000 in
theorem q_se_yX6_sand : Cond.selects RX6 yX6_sand yX6_sand ∈ lw_tg := lw_in (i := 707) (by decide +kernel) rfl
set_option maxRecDepth 100000 in
theorem q_co_yX6_sand : Cond.code yX6_sand cX6_sand 4 (some .int) ∈ lw_tg := lw_in (i := 708) (by decide +kernel) rfl
set_option maxRecDepth 100000 in
theorem q_ml_RX6_178 : Cond.methodLink RX6 178 yX6_size ∈ lw_tg := lw_in (i := 709) (by decide +kernel) rfl
set_option maxRecDepth 100000 in
theorem q_st_yX6_size : Cond.static yX6_size ∈ lw_tg := lw_in (i := 710) (by decide +kernel) rfl
set_option maxRecDepth 100000 in
theorem q_co_yX6_size : Cond.code yX6_size cX6_size 3 (some .int) ∈ lw_tg := lw_in (i := 711) (by decide +kernel) rfl
set_option maxRecDepth 100000 in
theorem q_ml_RX6_181 : Cond.methodLink RX6 181 yX6_isUpBySand ∈ lw_tg := lw_in (i := 712) (by decide +kernel) rfl
set_option maxRecDepth 100000 in
theorem q_im_yX6_isUpBySand : Cond.instanceMethod yX6_isUpBySand ∈ lw_tg := lw_in (i := 714) (by decide +kernel) rfl
set_option maxRecDepth 100000 in
theorem q_co_yX6_isUpBySand : Cond.code yX6_isUpBySand cX6_isUpBySand 5 (some .boolean) ∈ lw_tg := lw_in (i := 715) (by decide +kernel) rfl
set_option maxRecDepth 100000 in
theorem q_ml_RL_61 : Cond.methodLink RL 61 yX6_game ∈ lw_tg := lw_in (i := 716) (by decide +kernel) rfl
set_option maxRecDepth 100000 in
theorem q_im_yX6_game : Cond.instanceMethod yX6_game ∈ lw_tg := lw_in (i := 717) (by decide +kernel) rfl
set_option maxRecDepth 100000 in
theorem q_se_yX6_game : Cond.selects RX6 yX6_game yX6_game ∈ lw_tg := lw_in (i := 718) (by decide +kernel) rfl
set_option maxRecDepth 100000 in
theorem q_co_yX6_game : Cond.code yX6_game cX6_game 6 (some .int) ∈ lw_tg := lw_in (i := 719) (by decide +kernel) rfl
set_option maxRecDepth 100000 in
theorem q_ml_RX6_184 : Cond.methodLink RX6 184 yX6_endOf ∈ lw_tg := lw_in (i := 720) (by decide +kernel) rfl
set_option maxRecDepth 100000 in
theorem q_im_yX6_endOf : Cond.instanceMethod yX6_endOf ∈ lw_tg := lw_in (i := 722) (by decide +kernel) rfl
set_option maxRecDepth 100000 in
theorem q_co_yX6_endOf : Cond.code yX6_endOf cX6_endOf 7 (some .int) ∈ lw_tg := lw_in (i := 723) (by decide +kernel) rfl
set_option maxRecDepth 100000 in
theorem q_ml_RX6_187 : Cond.methodLink RX6 187 yX6_better ∈ lw_tg := lw_in (i := 724) (by decide +kernel) rfl
set_option maxRecDepth 100000 in
theorem q_st_yX6_better : Cond.static yX6_better ∈ lw_tg := lw_in (i := 725) (by decide +kernel) rfl
set_option maxRecDepth 100000 in
theorem q_co_yX6_better : Cond.code yX6_better cX6_better 3 (some .int) ∈ lw_tg := lw_in (i := 726) (by decide +kernel) rfl
set_option maxRecDepth 100000 in
theorem q_ml_RL_65 : Cond.methodLink RL 65 yX6_worth ∈ lw_tg := lw_in (i := 727) (by decide +kernel) rfl
set_option maxRecDepth 100000 in
theorem q_im_yX6_worth : Cond.instanceMethod yX6_worth ∈ lw_tg := lw_in (i := 728) (by decide +kernel) rfl
set_option maxRecDepth 100000 in
theorem q_se_yX6_worth : Cond.selects RX6 yX6_worth yX6_worth ∈ lw_tg := lw_in (i := 729) (by decide +kernel) rfl
set_option maxRecDepth 100000 in
theorem q_co_yX6_worth : Cond.code yX6_worth cX6_worth 2 (some .int) ∈ lw_tg := lw_in (i := 730) (by decide +kernel) rfl
set_option maxRecDepth 100000 in
theorem q_ml_RX6_190 : Cond.methodLink RX6 190 yX6_othersHeights ∈ lw_tg := lw_in (i := 731) (by decide +kernel) rfl
set_option maxRecDepth 100000 in
theorem q_im_yX6_othersHeights : Cond.instanceMethod yX6_othersHeights ∈ lw_tg := lw_in (i := 733) (by decide +kernel) rfl
set_option maxRecDepth 100000 in
theorem q_co_yX6_othersHeights : Cond.code yX6_othersHeights cX6_othersHeights 5 (some .int) ∈ lw_tg := lw_in (i := 734) (by decide +kernel) rfl
set_option maxRecDepth 100000 in
theorem q_ml_RL_69 : Cond.methodLink RL 69 yX6_reading ∈ lw_tg := lw_in (i := 735) (by decide +kernel) rfl
set_option maxRecDepth 100000 in
theorem q_im_yX6_reading : Cond.instanceMethod yX6_reading ∈ lw_tg := lw_in (i := 736) (by decide +kernel) rfl
set_option maxRecDepth 100000 in
theorem q_se_yX6_reading : Cond.selects RX6 yX6_reading yX6_reading ∈ lw_tg := lw_in (i := 737) (by decide +kernel) rfl
set_option maxRecDepth 100000 in
theorem q_co_yX6_reading : Cond.code yX6_reading cX6_reading 3 (some .int) ∈ lw_tg := lw_in (i := 738) (by decide +kernel) rfl
set_option maxRecDepth 100000 in
theorem q_ml_RL_73 : Cond.methodLink RL 73 yX6_back ∈ lw_tg := lw_in (i := 739) (by decide +kernel) rfl
set_option maxRecDepth 100000 in
theorem q_im_yX6_back : Cond.instanceMethod yX6_back ∈ lw_tg := lw_in (i := 740) (by decide +kernel) rfl
set_option maxRecDepth 100000 in
theorem q_se_yX6_back : Cond.selects RX6 yX6_back yX6_back ∈ lw_tg := lw_in (i := 741) (by decide +kernel) rfl
set_option maxRecDepth 100000 in
theorem q_co_yX6_back : Cond.code yX6_back cX6_back 2 (some .int) ∈ lw_tg := lw_in (i := 742) (by decide +kernel) rfl
set_option maxRecDepth 100000 in
theorem q_ml_RL_78 : Cond.methodLink RL 78 yX6_speeds ∈ lw_tg := lw_in (i := 743) (by decide +kernel) rfl
set_option maxRecDepth 100000 in
theorem q_im_yX6_speeds : Cond.instanceMethod yX6_speeds ∈ lw_tg := lw_in (i := 744) (by decide +kernel) rfl
set_option maxRecDepth 100000 in
theorem q_se_yX6_speeds : Cond.selects RX6 yX6_speeds yX6_speeds ∈ lw_tg := lw_in (i := 745) (by decide +kernel) rfl
set_option maxRecDepth 100000 in
theorem q_co_yX6_speeds : Cond.code yX6_speeds cX6_speeds 12 (some .int) ∈ lw_tg := lw_in (i := 746) (by decide +kernel) rfl
set_option maxRecDepth 100000 in
theorem q_ml_RX6_194 : Cond.methodLink RX6 194 yX6_lay ∈ lw_tg := lw_in (i := 747) (by decide +kernel) rfl
set_option maxRecDepth 100000 in
theorem q_im_yX6_lay : Cond.instanceMethod yX6_lay ∈ lw_tg := lw_in (i := 749) (by decide +kernel) rfl
set_option maxRecDepth 100000 in
theorem q_co_yX6_lay : Cond.code yX6_lay cX6_lay 6 (some .int) ∈ lw_tg := lw_in (i := 750) (by decide +kernel) rfl
set_option maxRecDepth 100000 in
theorem q_ml_RX6_198 : Cond.methodLink RX6 198 yX6_areSo ∈ lw_tg := lw_in (i := 751) (by decide +kernel) rfl
set_option maxRecDepth 100000 in
theorem q_im_yX6_areSo : Cond.instanceMethod yX6_areSo ∈ lw_tg := lw_in (i := 753) (by decide +kernel) rfl
set_option maxRecDepth 100000 in
theorem q_co_yX6_areSo : Cond.code yX6_areSo cX6_areSo 2 (some .boolean) ∈ lw_tg := lw_in (i := 754) (by decide +kernel) rfl
set_option maxRecDepth 100000 in
theorem q_ml_RL_82 : Cond.methodLink RL 82 yX6_nails ∈ lw_tg := lw_in (i := 755) (by decide +kernel) rfl
set_option maxRecDepth 100000 in
theorem q_im_yX6_nails : Cond.instanceMethod yX6_nails ∈ lw_tg := lw_in (i := 756) (by decide +kernel) rfl
set_option maxRecDepth 100000 in
theorem q_se_yX6_nails : Cond.selects RX6 yX6_nails yX6_nails ∈ lw_tg := lw_in (i := 757) (by decide +kernel) rfl
set_option maxRecDepth 100000 in
theorem q_co_yX6_nails : Cond.code yX6_nails cX6_nails 10 (some .int) ∈ lw_tg := lw_in (i := 758) (by decide +kernel) rfl
set_option maxRecDepth 100000 in
theorem q_ml_RL_86 : Cond.methodLink RL 86 yX6_slicks ∈ lw_tg := lw_in (i := 759) (by decide +kernel) rfl
set_option maxRecDepth 100000 in
theorem q_im_yX6_slicks : Cond.instanceMethod yX6_slicks ∈ lw_tg := lw_in (i := 760) (by decide +kernel) rfl
set_option maxRecDepth 100000 in
theorem q_se_yX6_slicks : Cond.selects RX6 yX6_slicks yX6_slicks ∈ lw_tg := lw_in (i := 761) (by decide +kernel) rfl
set_option maxRecDepth 100000 in
theorem q_co_yX6_slicks : Cond.code yX6_slicks cX6_slicks 10 (some .int) ∈ lw_tg := lw_in (i := 762) (by decide +kernel) rfl
set_option maxRecDepth 100000 in
theorem q_ml_RL_90 : Cond.methodLink RL 90 yX6_kinds ∈ lw_tg := lw_in (i := 763) (by decide +kernel) rfl
set_option maxRecDepth 100000 in
theorem q_im_yX6_kinds : Cond.instanceMethod yX6_kinds ∈ lw_tg := lw_in (i := 764) (by decide +kernel) rfl
set_option maxRecDepth 100000 in
theorem q_se_yX6_kinds : Cond.selects RX6 yX6_kinds yX6_kinds ∈ lw_tg := lw_in (i := 765) (by decide +kernel) rfl
set_option maxRecDepth 100000 in
theorem q_co_yX6_kinds : Cond.code yX6_kinds cX6_kinds 10 (some .int) ∈ lw_tg := lw_in (i := 766) (by decide +kernel) rfl
set_option maxRecDepth 100000 in
theorem q_ml_RL_95 : Cond.methodLink RL 95 yX6_odds ∈ lw_tg := lw_in (i := 767) (by decide +kernel) rfl
set_option maxRecDepth 100000 in
theorem q_im_yX6_odds : Cond.instanceMethod yX6_odds ∈ lw_tg := lw_in (i := 768) (by decide +kernel) rfl
set_option maxRecDepth 100000 in
theorem q_se_yX6_odds : Cond.selects RX6 yX6_odds yX6_odds ∈ lw_tg := lw_in (i := 769) (by decide +kernel) rfl
set_option maxRecDepth 100000 in
theorem q_co_yX6_odds : Cond.code yX6_odds cX6_odds 9 (some .long) ∈ lw_tg := lw_in (i := 770) (by decide +kernel) rfl
set_option maxRecDepth 100000 in
theorem q_k_RX6_65 : Cond.constantLong RX6 65 (-9223372036854775808 : Int64) ∈ lw_tg := lw_in (i := 771) (by decide +kernel) rfl
set_option maxRecDepth 100000 in
theorem q_ml_RX6_202 : Cond.methodLink RX6 202 yX6_isUpByRain ∈ lw_tg := lw_in (i := 772) (by decide +kernel) rfl
set_option maxRecDepth 100000 in
theorem q_im_yX6_isUpByRain : Cond.instanceMethod yX6_isUpByRain ∈ lw_tg := lw_in (i := 774) (by decide +kernel) rfl
set_option maxRecDepth 100000 in
theorem q_co_yX6_isUpByRain : Cond.code yX6_isUpByRain cX6_isUpByRain 4 (some .boolean) ∈ lw_tg := lw_in (i := 775) (by decide +kernel) rfl
set_option maxRecDepth 100000 in
theorem q_ml_RX6_205 : Cond.methodLink RX6 205 yX6_inLeastTerms ∈ lw_tg := lw_in (i := 776) (by decide +kernel) rfl
set_option maxRecDepth 100000 in
theorem q_st_yX6_inLeastTerms : Cond.static yX6_inLeastTerms ∈ lw_tg := lw_in (i := 777) (by decide +kernel) rfl
set_option maxRecDepth 100000 in
theorem q_co_yX6_inLeastTerms : Cond.code yX6_inLeastTerms cX6_inLeastTerms 11 (some .long) ∈ lw_tg := lw_in (i := 778) (by decide +kernel) rfl
set_option maxRecDepth 100000 in
theorem q_ml_RL_99 : Cond.methodLink RL 99 yX6_sheet ∈ lw_tg := lw_in (i := 779) (by decide +kernel) rfl
set_option maxRecDepth 100000 in
theorem q_im_yX6_sheet : Cond.instanceMethod yX6_sheet ∈ lw_tg := lw_in (i := 780) (by decide +kernel) rfl
set_option maxRecDepth 100000 in
theorem q_se_yX6_sheet : Cond.selects RX6 yX6_sheet yX6_sheet ∈ lw_tg := lw_in (i := 781) (by decide +kernel) rfl
set_option maxRecDepth 100000 in
theorem q_co_yX6_sheet : Cond.code yX6_sheet cX6_sheet 5 (some .int) ∈ lw_tg := lw_in (i := 782) (by decide +kernel) rfl
set_option maxRecDepth 100000 in
theorem q_ml_RL_103 : Cond.methodLink RL 103 yX6_lose ∈ lw_tg := lw_in (i := 783) (by decide +kernel) rfl
set_option maxRecDepth 100000 in
theorem q_im_yX6_lose : Cond.instanceMethod yX6_lose ∈ lw_tg := lw_in (i := 784) (by decide +kernel) rfl
set_option maxRecDepth 100000 in
theorem q_se_yX6_lose : Cond.selects RX6 yX6_lose yX6_lose ∈ lw_tg := lw_in (i := 785) (by decide +kernel) rfl
set_option maxRecDepth 100000 in
theorem q_co_yX6_lose : Cond.code yX6_lose cX6_lose 3 (some .int) ∈ lw_tg := lw_in (i := 786) (by decide +kernel) rfl
set_option maxRecDepth 100000 in
theorem q_ml_RL_107 : Cond.methodLink RL 107 yX6_put ∈ lw_tg := lw_in (i := 787) (by decide +kernel) rfl
set_option maxRecDepth 100000 in
theorem q_im_yX6_put : Cond.instanceMethod yX6_put ∈ lw_tg := lw_in (i := 788) (by decide +kernel) rfl
set_option maxRecDepth 100000 in
theorem q_se_yX6_put : Cond.selects RX6 yX6_put yX6_put ∈ lw_tg := lw_in (i := 789) (by decide +kernel) rfl
set_option maxRecDepth 100000 in
theorem q_co_yX6_put : Cond.code yX6_put cX6_put 4 (some .int) ∈ lw_tg := lw_in (i := 790) (by decide +kernel) rfl
set_option maxRecDepth 100000 in
theorem q_ml_RL_112 : Cond.methodLink RL 112 yX6_cell ∈ lw_tg := lw_in (i := 791) (by decide +kernel) rfl
set_option maxRecDepth 100000 in
theorem q_im_yX6_cell : Cond.instanceMethod yX6_cell ∈ lw_tg := lw_in (i := 792) (by decide +kernel) rfl
set_option maxRecDepth 100000 in
theorem q_se_yX6_cell : Cond.selects RX6 yX6_cell yX6_cell ∈ lw_tg := lw_in (i := 793) (by decide +kernel) rfl
set_option maxRecDepth 100000 in
theorem q_co_yX6_cell : Cond.code yX6_cell cX6_cell 4 (some .long) ∈ lw_tg := lw_in (i := 794) (by decide +kernel) rfl
set_option maxRecDepth 100000 in
theorem q_ml_RX6_209 : Cond.methodLink RX6 209 yX6_lost ∈ lw_tg := lw_in (i := 795) (by decide +kernel) rfl
set_option maxRecDepth 100000 in
theorem q_im_yX6_lost : Cond.instanceMethod yX6_lost ∈ lw_tg := lw_in (i := 797) (by decide +kernel) rfl
set_option maxRecDepth 100000 in
theorem q_co_yX6_lost : Cond.code yX6_lost cX6_lost 2 (some .long) ∈ lw_tg := lw_in (i := 798) (by decide +kernel) rfl
set_option maxRecDepth 100000 in
theorem q_ml_RL_116 : Cond.methodLink RL 116 yX6_copy ∈ lw_tg := lw_in (i := 799) (by decide +kernel) rfl
set_option maxRecDepth 100000 in
theorem q_im_yX6_copy : Cond.instanceMethod yX6_copy ∈ lw_tg := lw_in (i := 800) (by decide +kernel) rfl
set_option maxRecDepth 100000 in
theorem q_se_yX6_copy : Cond.selects RX6 yX6_copy yX6_copy ∈ lw_tg := lw_in (i := 801) (by decide +kernel) rfl
set_option maxRecDepth 100000 in
theorem q_co_yX6_copy : Cond.code yX6_copy cX6_copy 10 (some .int) ∈ lw_tg := lw_in (i := 802) (by decide +kernel) rfl
set_option maxRecDepth 100000 in
theorem q_ml_RL_120 : Cond.methodLink RL 120 yX6_tell ∈ lw_tg := lw_in (i := 803) (by decide +kernel) rfl
set_option maxRecDepth 100000 in
theorem q_im_yX6_tell : Cond.instanceMethod yX6_tell ∈ lw_tg := lw_in (i := 804) (by decide +kernel) rfl
set_option maxRecDepth 100000 in
theorem q_se_yX6_tell : Cond.selects RX6 yX6_tell yX6_tell ∈ lw_tg := lw_in (i := 805) (by decide +kernel) rfl
set_option maxRecDepth 100000 in
theorem q_co_yX6_tell : Cond.code yX6_tell cX6_tell 3 (some .int) ∈ lw_tg := lw_in (i := 806) (by decide +kernel) rfl
set_option maxRecDepth 100000 in
theorem q_ml_RX6_216 : Cond.methodLink RX6 216 yX6_begins ∈ lw_tg := lw_in (i := 807) (by decide +kernel) rfl
set_option maxRecDepth 100000 in
theorem q_im_yX6_begins : Cond.instanceMethod yX6_begins ∈ lw_tg := lw_in (i := 809) (by decide +kernel) rfl
set_option maxRecDepth 100000 in
theorem q_co_yX6_begins : Cond.code yX6_begins cX6_begins 2 (none : Option Jvm.ClassFile.FieldType) ∈ lw_tg := lw_in (i := 810) (by decide +kernel) rfl
set_option maxRecDepth 100000 in
theorem q_ml_RL_124 : Cond.methodLink RL 124 yX6_cheer ∈ lw_tg := lw_in (i := 811) (by decide +kernel) rfl
set_option maxRecDepth 100000 in
theorem q_im_yX6_cheer : Cond.instanceMethod yX6_cheer ∈ lw_tg := lw_in (i := 812) (by decide +kernel) rfl
set_option maxRecDepth 100000 in
theorem q_se_yX6_cheer : Cond.selects RX6 yX6_cheer yX6_cheer ∈ lw_tg := lw_in (i := 813) (by decide +kernel) rfl
set_option maxRecDepth 100000 in
theorem q_co_yX6_cheer : Cond.code yX6_cheer cX6_cheer 2 (some .int) ∈ lw_tg := lw_in (i := 814) (by decide +kernel) rfl
set_option maxRecDepth 100000 in
theorem q_ml_RL_128 : Cond.methodLink RL 128 yX6_as ∈ lw_tg := lw_in (i := 815) (by decide +kernel) rfl
set_option maxRecDepth 100000 in
theorem q_im_yX6_as : Cond.instanceMethod yX6_as ∈ lw_tg := lw_in (i := 816) (by decide +kernel) rfl
set_option maxRecDepth 100000 in
theorem q_se_yX6_as : Cond.selects RX6 yX6_as yX6_as ∈ lw_tg := lw_in (i := 817) (by decide +kernel) rfl
set_option maxRecDepth 100000 in
theorem q_co_yX6_as : Cond.code yX6_as cX6_as 3 (some .int) ∈ lw_tg := lw_in (i := 818) (by decide +kernel) rfl
set_option maxRecDepth 100000 in
theorem q_ml_RL_133 : Cond.methodLink RL 133 yX6_trace ∈ lw_tg := lw_in (i := 819) (by decide +kernel) rfl
set_option maxRecDepth 100000 in
theorem q_im_yX6_trace : Cond.instanceMethod yX6_trace ∈ lw_tg := lw_in (i := 820) (by decide +kernel) rfl
set_option maxRecDepth 100000 in
theorem q_se_yX6_trace : Cond.selects RX6 yX6_trace yX6_trace ∈ lw_tg := lw_in (i := 821) (by decide +kernel) rfl
set_option maxRecDepth 100000 in
theorem q_co_yX6_trace : Cond.code yX6_trace cX6_trace 1 (some .int) ∈ lw_tg := lw_in (i := 822) (by decide +kernel) rfl
set_option maxRecDepth 100000 in
theorem q_ml_RL_137 : Cond.methodLink RL 137 yX6_fault ∈ lw_tg := lw_in (i := 823) (by decide +kernel) rfl
set_option maxRecDepth 100000 in
theorem q_im_yX6_fault : Cond.instanceMethod yX6_fault ∈ lw_tg := lw_in (i := 824) (by decide +kernel) rfl
set_option maxRecDepth 100000 in
theorem q_se_yX6_fault : Cond.selects RX6 yX6_fault yX6_fault ∈ lw_tg := lw_in (i := 825) (by decide +kernel) rfl
set_option maxRecDepth 100000 in
theorem q_co_yX6_fault : Cond.code yX6_fault cX6_fault 1 (some .int) ∈ lw_tg := lw_in (i := 826) (by decide +kernel) rfl
set_option maxRecDepth 100000 in
theorem q_ml_RL_141 : Cond.methodLink RL 141 yX6_many ∈ lw_tg := lw_in (i := 827) (by decide +kernel) rfl
set_option maxRecDepth 100000 in
theorem q_im_yX6_many : Cond.instanceMethod yX6_many ∈ lw_tg := lw_in (i := 828) (by decide +kernel) rfl
set_option maxRecDepth 100000 in
theorem q_se_yX6_many : Cond.selects RX6 yX6_many yX6_many ∈ lw_tg := lw_in (i := 829) (by decide +kernel) rfl
set_option maxRecDepth 100000 in
theorem q_co_yX6_many : Cond.code yX6_many cX6_many 2 (some .int) ∈ lw_tg := lw_in (i := 830) (by decide +kernel) rfl
set_option maxRecDepth 100000 in
theorem q_se_yX5_meet : Cond.selects RX5 yX5_meet yX5_meet ∈ lw_tg := List.mem_filter.mpr ⟨List.mem_append_left _ (List.mem_of_getElem? (i := 0) (by decide +kernel)), rfl⟩
set_option maxRecDepth 100000 in
theorem q_se_yX5_isPace : Cond.selects RX5 yX5_isPace yX5_isPace ∈ lw_tg := List.mem_filter.mpr ⟨List.mem_append_left _ (List.mem_of_getElem? (i := 1) (by decide +kernel)), rfl⟩
set_option maxRecDepth 100000 in
theorem q_se_yX5_isRider : Cond.selects RX5 yX5_isRider yX5_isRider ∈ lw_tg := List.mem_filter.mpr ⟨List.mem_append_left _ (List.mem_of_getElem? (i := 2) (by decide +kernel)), rfl⟩
set_option maxRecDepth 100000 in
theorem q_se_yX5_readSteps : Cond.selects RX5 yX5_readSteps yX5_readSteps ∈ lw_tg := List.mem_filter.mpr ⟨List.mem_append_left _ (List.mem_of_getElem? (i := 3) (by decide +kernel)), rfl⟩
set_option maxRecDepth 100000 in
theorem q_se_yX5_firstWrong : Cond.selects RX5 yX5_firstWrong yX5_firstWrong ∈ lw_tg := List.mem_filter.mpr ⟨List.mem_append_left _ (List.mem_of_getElem? (i := 4) (by decide +kernel)), rfl⟩
set_option maxRecDepth 100000 in
theorem q_se_yX0_slideBack : Cond.selects RX0 yX0_slideBack yX0_slideBack ∈ lw_tg := List.mem_filter.mpr ⟨List.mem_append_left _ (List.mem_of_getElem? (i := 5) (by decide +kernel)), rfl⟩
set_option maxRecDepth 100000 in
theorem q_se_yX5_firstUp : Cond.selects RX5 yX5_firstUp yX5_firstUp ∈ lw_tg := List.mem_filter.mpr ⟨List.mem_append_left _ (List.mem_of_getElem? (i := 6) (by decide +kernel)), rfl⟩
set_option maxRecDepth 100000 in
theorem q_se_yX5_fewestTries : Cond.selects RX5 yX5_fewestTries yX5_fewestTries ∈ lw_tg := List.mem_filter.mpr ⟨List.mem_append_left _ (List.mem_of_getElem? (i := 7) (by decide +kernel)), rfl⟩
set_option maxRecDepth 100000 in
theorem q_se_yX5_heightsOfOthers : Cond.selects RX5 yX5_heightsOfOthers yX5_heightsOfOthers ∈ lw_tg := List.mem_filter.mpr ⟨List.mem_append_left _ (List.mem_of_getElem? (i := 8) (by decide +kernel)), rfl⟩
set_option maxRecDepth 100000 in
theorem q_se_yX5_readSeen : Cond.selects RX5 yX5_readSeen yX5_readSeen ∈ lw_tg := List.mem_filter.mpr ⟨List.mem_append_left _ (List.mem_of_getElem? (i := 9) (by decide +kernel)), rfl⟩
set_option maxRecDepth 100000 in
theorem q_se_yX5_isSeenWith : Cond.selects RX5 yX5_isSeenWith yX5_isSeenWith ∈ lw_tg := List.mem_filter.mpr ⟨List.mem_append_left _ (List.mem_of_getElem? (i := 10) (by decide +kernel)), rfl⟩
set_option maxRecDepth 100000 in
theorem q_se_yX5_setSeenWith : Cond.selects RX5 yX5_setSeenWith yX5_setSeenWith ∈ lw_tg := List.mem_filter.mpr ⟨List.mem_append_left _ (List.mem_of_getElem? (i := 11) (by decide +kernel)), rfl⟩
set_option maxRecDepth 100000 in
theorem q_se_yX5_tellAsLad : Cond.selects RX5 yX5_tellAsLad yX5_tellAsLad ∈ lw_tg := List.mem_filter.mpr ⟨List.mem_append_left _ (List.mem_of_getElem? (i := 12) (by decide +kernel)), rfl⟩
set_option maxRecDepth 100000 in
theorem q_se_yX5_leave : Cond.selects RX5 yX5_leave yX5_leave ∈ lw_tg := List.mem_filter.mpr ⟨List.mem_append_left _ (List.mem_of_getElem? (i := 13) (by decide +kernel)), rfl⟩
set_option maxRecDepth 100000 in
theorem q_se_yX5_tellAsNight : Cond.selects RX5 yX5_tellAsNight yX5_tellAsNight ∈ lw_tg := List.mem_filter.mpr ⟨List.mem_append_left _ (List.mem_of_getElem? (i := 14) (by decide +kernel)), rfl⟩
set_option maxRecDepth 100000 in
theorem q_se_yX5_tellAsRider : Cond.selects RX5 yX5_tellAsRider yX5_tellAsRider ∈ lw_tg := List.mem_filter.mpr ⟨List.mem_append_left _ (List.mem_of_getElem? (i := 15) (by decide +kernel)), rfl⟩
set_option maxRecDepth 100000 in
theorem q_se_yX6_against : Cond.selects RX6 yX6_against yX6_against ∈ lw_tg := List.mem_filter.mpr ⟨List.mem_append_left _ (List.mem_of_getElem? (i := 16) (by decide +kernel)), rfl⟩
set_option maxRecDepth 100000 in
theorem q_se_yX6_fails : Cond.selects RX6 yX6_fails yX6_fails ∈ lw_tg := List.mem_filter.mpr ⟨List.mem_append_left _ (List.mem_of_getElem? (i := 17) (by decide +kernel)), rfl⟩
set_option maxRecDepth 100000 in
theorem q_se_yX6_readHill : Cond.selects RX6 yX6_readHill yX6_readHill ∈ lw_tg := List.mem_filter.mpr ⟨List.mem_append_left _ (List.mem_of_getElem? (i := 18) (by decide +kernel)), rfl⟩
set_option maxRecDepth 100000 in
theorem q_se_yX6_isSign : Cond.selects RX6 yX6_isSign yX6_isSign ∈ lw_tg := List.mem_filter.mpr ⟨List.mem_append_left _ (List.mem_of_getElem? (i := 19) (by decide +kernel)), rfl⟩
set_option maxRecDepth 100000 in
theorem q_se_yX6_digit : Cond.selects RX6 yX6_digit yX6_digit ∈ lw_tg := List.mem_filter.mpr ⟨List.mem_append_left _ (List.mem_of_getElem? (i := 20) (by decide +kernel)), rfl⟩
set_option maxRecDepth 100000 in
theorem q_se_yX6_readRider : Cond.selects RX6 yX6_readRider yX6_readRider ∈ lw_tg := List.mem_filter.mpr ⟨List.mem_append_left _ (List.mem_of_getElem? (i := 21) (by decide +kernel)), rfl⟩
set_option maxRecDepth 100000 in
theorem q_se_yX6_isPace : Cond.selects RX6 yX6_isPace yX6_isPace ∈ lw_tg := List.mem_filter.mpr ⟨List.mem_append_left _ (List.mem_of_getElem? (i := 22) (by decide +kernel)), rfl⟩
set_option maxRecDepth 100000 in
theorem q_se_yX6_isRider : Cond.selects RX6 yX6_isRider yX6_isRider ∈ lw_tg := List.mem_filter.mpr ⟨List.mem_append_left _ (List.mem_of_getElem? (i := 23) (by decide +kernel)), rfl⟩
set_option maxRecDepth 100000 in
theorem q_se_yX6_takesOf : Cond.selects RX6 yX6_takesOf yX6_takesOf ∈ lw_tg := List.mem_filter.mpr ⟨List.mem_append_left _ (List.mem_of_getElem? (i := 24) (by decide +kernel)), rfl⟩
set_option maxRecDepth 100000 in
theorem q_se_yX6_laySteps : Cond.selects RX6 yX6_laySteps yX6_laySteps ∈ lw_tg := List.mem_filter.mpr ⟨List.mem_append_left _ (List.mem_of_getElem? (i := 25) (by decide +kernel)), rfl⟩
set_option maxRecDepth 100000 in
theorem q_se_yX6_go : Cond.selects RX6 yX6_go yX6_go ∈ lw_tg := List.mem_filter.mpr ⟨List.mem_append_left _ (List.mem_of_getElem? (i := 26) (by decide +kernel)), rfl⟩
set_option maxRecDepth 100000 in
theorem q_se_yX6_begin : Cond.selects RX6 yX6_begin yX6_begin ∈ lw_tg := List.mem_filter.mpr ⟨List.mem_append_left _ (List.mem_of_getElem? (i := 27) (by decide +kernel)), rfl⟩
set_option maxRecDepth 100000 in
theorem q_se_yX6_rain : Cond.selects RX6 yX6_rain yX6_rain ∈ lw_tg := List.mem_filter.mpr ⟨List.mem_append_left _ (List.mem_of_getElem? (i := 28) (by decide +kernel)), rfl⟩
set_option maxRecDepth 100000 in
theorem q_se_yX6_isUp : Cond.selects RX6 yX6_isUp yX6_isUp ∈ lw_tg := List.mem_filter.mpr ⟨List.mem_append_left _ (List.mem_of_getElem? (i := 29) (by decide +kernel)), rfl⟩
set_option maxRecDepth 100000 in
theorem q_se_yX6_tryOnce : Cond.selects RX6 yX6_tryOnce yX6_tryOnce ∈ lw_tg := List.mem_filter.mpr ⟨List.mem_append_left _ (List.mem_of_getElem? (i := 30) (by decide +kernel)), rfl⟩
set_option maxRecDepth 100000 in
theorem q_se_yX6_tellDays : Cond.selects RX6 yX6_tellDays yX6_tellDays ∈ lw_tg := List.mem_filter.mpr ⟨List.mem_append_left _ (List.mem_of_getElem? (i := 31) (by decide +kernel)), rfl⟩
set_option maxRecDepth 100000 in
theorem q_se_yX6_findFewest : Cond.selects RX6 yX6_findFewest yX6_findFewest ∈ lw_tg := List.mem_filter.mpr ⟨List.mem_append_left _ (List.mem_of_getElem? (i := 32) (by decide +kernel)), rfl⟩
set_option maxRecDepth 100000 in
theorem q_se_yX6_layRow : Cond.selects RX6 yX6_layRow yX6_layRow ∈ lw_tg := List.mem_filter.mpr ⟨List.mem_append_left _ (List.mem_of_getElem? (i := 33) (by decide +kernel)), rfl⟩
set_option maxRecDepth 100000 in
theorem q_se_yX6_isUpBySand : Cond.selects RX6 yX6_isUpBySand yX6_isUpBySand ∈ lw_tg := List.mem_filter.mpr ⟨List.mem_append_left _ (List.mem_of_getElem? (i := 34) (by decide +kernel)), rfl⟩
set_option maxRecDepth 100000 in
theorem q_se_yX6_endOf : Cond.selects RX6 yX6_endOf yX6_endOf ∈ lw_tg := List.mem_filter.mpr ⟨List.mem_append_left _ (List.mem_of_getElem? (i := 35) (by decide +kernel)), rfl⟩
set_option maxRecDepth 100000 in
theorem q_se_yX6_othersHeights : Cond.selects RX6 yX6_othersHeights yX6_othersHeights ∈ lw_tg := List.mem_filter.mpr ⟨List.mem_append_left _ (List.mem_of_getElem? (i := 36) (by decide +kernel)), rfl⟩
set_option maxRecDepth 100000 in
theorem q_se_yX6_lay : Cond.selects RX6 yX6_lay yX6_lay ∈ lw_tg := List.mem_filter.mpr ⟨List.mem_append_left _ (List.mem_of_getElem? (i := 37) (by decide +kernel)), rfl⟩
set_option maxRecDepth 100000 in
theorem q_se_yX6_areSo : Cond.selects RX6 yX6_areSo yX6_areSo ∈ lw_tg := List.mem_filter.mpr ⟨List.mem_append_left _ (List.mem_of_getElem? (i := 38) (by decide +kernel)), rfl⟩
set_option maxRecDepth 100000 in
theorem q_se_yX6_isUpByRain : Cond.selects RX6 yX6_isUpByRain yX6_isUpByRain ∈ lw_tg := List.mem_filter.mpr ⟨List.mem_append_left _ (List.mem_of_getElem? (i := 39) (by decide +kernel)), rfl⟩
set_option maxRecDepth 100000 in
theorem q_se_yX6_lost : Cond.selects RX6 yX6_lost yX6_lost ∈ lw_tg := List.mem_filter.mpr ⟨List.mem_append_left _ (List.mem_of_getElem? (i := 40) (by decide +kernel)), rfl⟩
set_option maxRecDepth 100000 in
theorem q_se_yX6_begins : Cond.selects RX6 yX6_begins yX6_begins ∈ lw_tg := List.mem_filter.mpr ⟨List.mem_append_left _ (List.mem_of_getElem? (i := 41) (by decide +kernel)), rfl⟩
