/-- the tables' words that every state keeps -/
def vT : List Cond := lw_tbl.filter goodWord
theorem vT_good : ∀ w ∈ vT, (w.onTables && w.keeps) = true ∨ ∃ ty, w = .arrayClass ty := fun _ hw => good_of_word (List.mem_filter.mp hw).2
theorem vT_in {w : Cond} (h : w ∈ tables_1) (g : goodWord w = true) : w ∈ vT := List.mem_filter.mpr ⟨List.mem_append_right _ h, g⟩
theorem vT_sel {w : Cond} (h : w ∈ k2_sels lw_privs) (g : goodWord w = true) : w ∈ vT := List.mem_filter.mpr ⟨List.mem_append_left _ h, g⟩
theorem vt_r1 {w : Cond} (h : w ∈ tables_1_1) : w ∈ tables_1 := List.mem_append_left _ h
theorem vt_r2 {w : Cond} (h : w ∈ tables_1_2) : w ∈ tables_1 := List.mem_append_right _ (List.mem_append_left _ h)
theorem vt_r3 {w : Cond} (h : w ∈ tables_1_3) : w ∈ tables_1 := List.mem_append_right _ (List.mem_append_right _ (List.mem_append_left _ h))
theorem vt_r4 {w : Cond} (h : w ∈ tables_1_4) : w ∈ tables_1 := List.mem_append_right _ (List.mem_append_right _ (List.mem_append_right _ h))
theorem k_ini_SampleDeskLaw : Cond.initialized RL ∈ vT := vT_in (vt_r1 (List.mem_of_getElem? (i := 0) rfl)) rfl
theorem k_ini_SampleDesk : Cond.initialized RX8 ∈ vT := vT_in (vt_r1 (List.mem_of_getElem? (i := 1) rfl)) rfl
theorem k_ini_Table : Cond.initialized RX6 ∈ vT := vT_in (vt_r1 (List.mem_of_getElem? (i := 2) rfl)) rfl
theorem k_ini_Dice : Cond.initialized RX0 ∈ vT := vT_in (vt_r1 (List.mem_of_getElem? (i := 3) rfl)) rfl
theorem k_ini_Tape : Cond.initialized RX7 ∈ vT := vT_in (vt_r1 (List.mem_of_getElem? (i := 4) rfl)) rfl
theorem k_ini_Sampler : Cond.initialized RX5 ∈ vT := vT_in (vt_r1 (List.mem_of_getElem? (i := 5) rfl)) rfl
theorem k_ini_Laws : Cond.initialized RX1 ∈ vT := vT_in (vt_r1 (List.mem_of_getElem? (i := 6) rfl)) rfl
theorem k_ini_Rows : Cond.initialized RX4 ∈ vT := vT_in (vt_r1 (List.mem_of_getElem? (i := 7) rfl)) rfl
theorem k_ini_Order : Cond.initialized RX3 ∈ vT := vT_in (vt_r1 (List.mem_of_getElem? (i := 8) rfl)) rfl
theorem k_ini_Log : Cond.initialized RX2 ∈ vT := vT_in (vt_r1 (List.mem_of_getElem? (i := 9) rfl)) rfl
theorem k_ini_SampleDeskModel : Cond.initialized RX9 ∈ vT := vT_in (vt_r1 (List.mem_of_getElem? (i := 10) rfl)) rfl
theorem k_ini_java_lang_Throwable : Cond.initialized "java/lang/Throwable" ∈ vT := vT_in (vt_r1 (List.mem_of_getElem? (i := 11) rfl)) rfl
theorem k_ini_java_lang_Exception : Cond.initialized "java/lang/Exception" ∈ vT := vT_in (vt_r1 (List.mem_of_getElem? (i := 12) rfl)) rfl
theorem k_ini_java_lang_RuntimeException : Cond.initialized "java/lang/RuntimeException" ∈ vT := vT_in (vt_r1 (List.mem_of_getElem? (i := 13) rfl)) rfl
theorem k_ini_java_lang_IllegalStateException : Cond.initialized "java/lang/IllegalStateException" ∈ vT := vT_in (vt_r1 (List.mem_of_getElem? (i := 14) rfl)) rfl
theorem k_ini_java_lang_IndexOutOfBoundsException : Cond.initialized "java/lang/IndexOutOfBoundsException" ∈ vT := vT_in (vt_r1 (List.mem_of_getElem? (i := 15) rfl)) rfl
theorem k_ini_java_lang_IllegalArgumentException : Cond.initialized "java/lang/IllegalArgumentException" ∈ vT := vT_in (vt_r1 (List.mem_of_getElem? (i := 16) rfl)) rfl
theorem k_ini_java_lang_Math : Cond.initialized RJ9 ∈ vT := vT_in (vt_r1 (List.mem_of_getElem? (i := 17) rfl)) rfl
theorem k_ini_java_lang_System : Cond.initialized RJ10 ∈ vT := vT_in (vt_r1 (List.mem_of_getElem? (i := 18) rfl)) rfl
theorem k_ini_java_util_NoSuchElementException : Cond.initialized "java/util/NoSuchElementException" ∈ vT := vT_in (vt_r1 (List.mem_of_getElem? (i := 19) rfl)) rfl
theorem k_cl_SampleDeskLaw_8 : Cond.classLink RL 8 RX8 ∈ vT := vT_in (vt_r1 (List.mem_of_getElem? (i := 20) rfl)) rfl
theorem k_inst_SampleDesk : Cond.instantiable RX8 9 ∈ vT := vT_in (vt_r1 (List.mem_of_getElem? (i := 21) rfl)) rfl
theorem k_m_SampleDeskLaw_63 : Cond.methodLink RL 63 yX8_init ∈ vT := vT_in (vt_r1 (List.mem_of_getElem? (i := 22) rfl)) rfl
theorem k_instanceMethod_X8_init : Cond.instanceMethod yX8_init ∈ vT := vT_in (vt_r1 (List.mem_of_getElem? (i := 23) rfl)) rfl
theorem k_code_X8_init : Cond.code yX8_init cX8_init 3 (none : Option FieldType) ∈ vT := vT_in (vt_r1 (List.mem_of_getElem? (i := 24) rfl)) rfl
theorem k_m_SampleDesk_1 : Cond.methodLink RX8 1 objectInit ∈ vT := vT_in (vt_r1 (List.mem_of_getElem? (i := 25) rfl)) rfl
theorem k_instanceMethod_26 : Cond.instanceMethod objectInit ∈ vT := vT_in (vt_r1 (List.mem_of_getElem? (i := 26) rfl)) rfl
theorem k_cl_SampleDesk_9 : Cond.classLink RX8 9 RX6 ∈ vT := vT_in (vt_r1 (List.mem_of_getElem? (i := 28) rfl)) rfl
theorem k_inst_Table : Cond.instantiable RX6 7 ∈ vT := vT_in (vt_r1 (List.mem_of_getElem? (i := 30) rfl)) rfl
theorem k_mn_SampleDesk_11 : Cond.methodLinkNest RX8 11 yX6_init "SampleDesk" ∈ lw_tbl := List.mem_append_right _ (vt_r1 (List.mem_of_getElem? (i := 31) rfl))
theorem k_instanceMethod_X6_init : Cond.instanceMethod yX6_init ∈ vT := vT_in (vt_r1 (List.mem_of_getElem? (i := 32) rfl)) rfl
theorem k_code_X6_init : Cond.code yX6_init cX6_init 1 (none : Option FieldType) ∈ vT := vT_in (vt_r1 (List.mem_of_getElem? (i := 33) rfl)) rfl
theorem k_m_Table_3 : Cond.methodLink RX6 3 objectInit ∈ vT := vT_in (vt_r1 (List.mem_of_getElem? (i := 34) rfl)) rfl
theorem k_f_Table_9 : Cond.fieldLink RX6 9 "SampleDesk$Table" "weights" "[I" ∈ vT := vT_in (vt_r1 (List.mem_of_getElem? (i := 35) rfl)) rfl
theorem k_f_Table_15 : Cond.fieldLink RX6 15 "SampleDesk$Table" "smalls" "[I" ∈ vT := vT_in (vt_r1 (List.mem_of_getElem? (i := 36) rfl)) rfl
theorem k_f_Table_18 : Cond.fieldLink RX6 18 "SampleDesk$Table" "partners" "[I" ∈ vT := vT_in (vt_r1 (List.mem_of_getElem? (i := 37) rfl)) rfl
theorem k_f_SampleDesk_122 : Cond.fieldLink RX8 122 "SampleDesk$Table" "partners" "[I" ∈ vT := vT_in (vt_r1 (List.mem_of_getElem? (i := 38) rfl)) rfl
theorem k_f_Table_21 : Cond.fieldLink RX6 21 "SampleDesk$Table" "rests" "[J" ∈ vT := vT_in (vt_r1 (List.mem_of_getElem? (i := 39) rfl)) rfl
theorem k_f_SampleDesk_118 : Cond.fieldLink RX8 118 "SampleDesk$Table" "rests" "[J" ∈ vT := vT_in (vt_r1 (List.mem_of_getElem? (i := 40) rfl)) rfl
theorem k_f_Table_25 : Cond.fieldLink RX6 25 "SampleDesk$Table" "method" "I" ∈ vT := vT_in (vt_r1 (List.mem_of_getElem? (i := 41) rfl)) rfl
theorem k_f_Sampler_36 : Cond.fieldLink RX5 36 "SampleDesk$Table" "method" "I" ∈ vT := vT_in (vt_r1 (List.mem_of_getElem? (i := 42) rfl)) rfl
theorem k_f_SampleDesk_112 : Cond.fieldLink RX8 112 "SampleDesk$Table" "method" "I" ∈ vT := vT_in (vt_r1 (List.mem_of_getElem? (i := 43) rfl)) rfl
theorem k_f_Table_29 : Cond.fieldLink RX6 29 "SampleDesk$Table" "top" "I" ∈ vT := vT_in (vt_r1 (List.mem_of_getElem? (i := 44) rfl)) rfl
theorem k_f_SampleDesk_115 : Cond.fieldLink RX8 115 "SampleDesk$Table" "top" "I" ∈ vT := vT_in (vt_r1 (List.mem_of_getElem? (i := 45) rfl)) rfl
theorem k_f_Table_32 : Cond.fieldLink RX6 32 "SampleDesk$Table" "sum" "J" ∈ vT := vT_in (vt_r1 (List.mem_of_getElem? (i := 46) rfl)) rfl
theorem k_f_SampleDesk_108 : Cond.fieldLink RX8 108 "SampleDesk$Table" "sum" "J" ∈ vT := vT_in (vt_r1 (List.mem_of_getElem? (i := 47) rfl)) rfl
theorem k_lay_Table_weights : Cond.laysFinal RX6 "SampleDesk$Table" "weights" "[I" ∈ vT := vT_in (vt_r1 (List.mem_of_getElem? (i := 48) rfl)) rfl
theorem k_lay_Table_smalls : Cond.laysFinal RX6 "SampleDesk$Table" "smalls" "[I" ∈ vT := vT_in (vt_r1 (List.mem_of_getElem? (i := 50) rfl)) rfl
theorem k_lay_Table_partners : Cond.laysFinal RX6 "SampleDesk$Table" "partners" "[I" ∈ vT := vT_in (vt_r1 (List.mem_of_getElem? (i := 52) rfl)) rfl
theorem k_lay_Table_rests : Cond.laysFinal RX6 "SampleDesk$Table" "rests" "[J" ∈ vT := vT_in (vt_r1 (List.mem_of_getElem? (i := 54) rfl)) rfl
theorem k_lay_Table_method : Cond.lays RX6 "SampleDesk$Table" "method" "I" ∈ vT := vT_in (vt_r1 (List.mem_of_getElem? (i := 56) rfl)) rfl
theorem k_lay_Table_top : Cond.lays RX6 "SampleDesk$Table" "top" "I" ∈ vT := vT_in (vt_r1 (List.mem_of_getElem? (i := 58) rfl)) rfl
theorem k_lay_Table_sum : Cond.lays RX6 "SampleDesk$Table" "sum" "J" ∈ vT := vT_in (vt_r1 (List.mem_of_getElem? (i := 60) rfl)) rfl
theorem k_arr_int : Cond.arrayClass .int ∈ vT := vT_in (vt_r1 (List.mem_of_getElem? (i := 63) rfl)) rfl
theorem k_arr_long : Cond.arrayClass .long ∈ vT := vT_in (vt_r1 (List.mem_of_getElem? (i := 64) rfl)) rfl
theorem k_cl_SampleDesk_12 : Cond.classLink RX8 12 RX0 ∈ vT := vT_in (vt_r1 (List.mem_of_getElem? (i := 65) rfl)) rfl
theorem k_inst_Dice : Cond.instantiable RX0 5 ∈ vT := vT_in (vt_r1 (List.mem_of_getElem? (i := 66) rfl)) rfl
theorem k_mn_SampleDesk_14 : Cond.methodLinkNest RX8 14 yX0_init "SampleDesk" ∈ lw_tbl := List.mem_append_right _ (vt_r1 (List.mem_of_getElem? (i := 67) rfl))
theorem k_instanceMethod_X0_init : Cond.instanceMethod yX0_init ∈ vT := vT_in (vt_r1 (List.mem_of_getElem? (i := 68) rfl)) rfl
theorem k_code_X0_init : Cond.code yX0_init cX0_init 1 (none : Option FieldType) ∈ vT := vT_in (vt_r1 (List.mem_of_getElem? (i := 69) rfl)) rfl
theorem k_m_Dice_3 : Cond.methodLink RX0 3 objectInit ∈ vT := vT_in (vt_r1 (List.mem_of_getElem? (i := 70) rfl)) rfl
theorem k_f_Dice_9 : Cond.fieldLink RX0 9 "SampleDesk$Dice" "words" "[I" ∈ vT := vT_in (vt_r1 (List.mem_of_getElem? (i := 71) rfl)) rfl
theorem k_f_Dice_15 : Cond.fieldLink RX0 15 "SampleDesk$Dice" "from" "I" ∈ vT := vT_in (vt_r1 (List.mem_of_getElem? (i := 72) rfl)) rfl
theorem k_f_Dice_19 : Cond.fieldLink RX0 19 "SampleDesk$Dice" "place" "I" ∈ vT := vT_in (vt_r1 (List.mem_of_getElem? (i := 73) rfl)) rfl
theorem k_f_Dice_28 : Cond.fieldLink RX0 28 "SampleDesk$Dice" "end" "I" ∈ vT := vT_in (vt_r1 (List.mem_of_getElem? (i := 74) rfl)) rfl
theorem k_f_Laws_15 : Cond.fieldLink RX1 15 "SampleDesk$Dice" "dry" "Z" ∈ vT := vT_in (vt_r1 (List.mem_of_getElem? (i := 75) rfl)) rfl
theorem k_f_Dice_31 : Cond.fieldLink RX0 31 "SampleDesk$Dice" "dry" "Z" ∈ vT := vT_in (vt_r1 (List.mem_of_getElem? (i := 76) rfl)) rfl
theorem k_f_Rows_34 : Cond.fieldLink RX4 34 "SampleDesk$Dice" "dry" "Z" ∈ vT := vT_in (vt_r1 (List.mem_of_getElem? (i := 77) rfl)) rfl
theorem k_f_SampleDesk_152 : Cond.fieldLink RX8 152 "SampleDesk$Dice" "dry" "Z" ∈ vT := vT_in (vt_r1 (List.mem_of_getElem? (i := 78) rfl)) rfl
theorem k_f_Table_69 : Cond.fieldLink RX6 69 "SampleDesk$Dice" "dry" "Z" ∈ vT := vT_in (vt_r1 (List.mem_of_getElem? (i := 79) rfl)) rfl
theorem k_lay_Dice_words : Cond.lays RX0 "SampleDesk$Dice" "words" "[I" ∈ vT := vT_in (vt_r1 (List.mem_of_getElem? (i := 80) rfl)) rfl
theorem k_lay_Dice_from : Cond.lays RX0 "SampleDesk$Dice" "from" "I" ∈ vT := vT_in (vt_r1 (List.mem_of_getElem? (i := 82) rfl)) rfl
theorem k_lay_Dice_place : Cond.lays RX0 "SampleDesk$Dice" "place" "I" ∈ vT := vT_in (vt_r1 (List.mem_of_getElem? (i := 84) rfl)) rfl
theorem k_lay_Dice_end : Cond.lays RX0 "SampleDesk$Dice" "end" "I" ∈ vT := vT_in (vt_r1 (List.mem_of_getElem? (i := 86) rfl)) rfl
theorem k_lay_Dice_dry : Cond.lays RX0 "SampleDesk$Dice" "dry" "Z" ∈ vT := vT_in (vt_r1 (List.mem_of_getElem? (i := 88) rfl)) rfl
theorem k_cl_SampleDesk_15 : Cond.classLink RX8 15 RX7 ∈ vT := vT_in (vt_r1 (List.mem_of_getElem? (i := 91) rfl)) rfl
theorem k_inst_Tape : Cond.instantiable RX7 3 ∈ vT := vT_in (vt_r1 (List.mem_of_getElem? (i := 92) rfl)) rfl
theorem k_mn_SampleDesk_17 : Cond.methodLinkNest RX8 17 yX7_init "SampleDesk" ∈ lw_tbl := List.mem_append_right _ (vt_r1 (List.mem_of_getElem? (i := 93) rfl))
theorem k_instanceMethod_X7_init : Cond.instanceMethod yX7_init ∈ vT := vT_in (vt_r1 (List.mem_of_getElem? (i := 94) rfl)) rfl
theorem k_code_X7_init : Cond.code yX7_init cX7_init 1 (none : Option FieldType) ∈ vT := vT_in (vt_r1 (List.mem_of_getElem? (i := 95) rfl)) rfl
theorem k_m_Tape_3 : Cond.methodLink RX7 3 objectInit ∈ vT := vT_in (vt_r1 (List.mem_of_getElem? (i := 96) rfl)) rfl
theorem k_f_Tape_9 : Cond.fieldLink RX7 9 "SampleDesk$Tape" "words" "[I" ∈ vT := vT_in (vt_r1 (List.mem_of_getElem? (i := 97) rfl)) rfl
theorem k_f_SampleDesk_141 : Cond.fieldLink RX8 141 "SampleDesk$Tape" "words" "[I" ∈ vT := vT_in (vt_r1 (List.mem_of_getElem? (i := 98) rfl)) rfl
theorem k_f_Tape_15 : Cond.fieldLink RX7 15 "SampleDesk$Tape" "size" "I" ∈ vT := vT_in (vt_r1 (List.mem_of_getElem? (i := 99) rfl)) rfl
theorem k_f_SampleDesk_71 : Cond.fieldLink RX8 71 "SampleDesk$Tape" "size" "I" ∈ vT := vT_in (vt_r1 (List.mem_of_getElem? (i := 100) rfl)) rfl
theorem k_f_Tape_19 : Cond.fieldLink RX7 19 "SampleDesk$Tape" "place" "I" ∈ vT := vT_in (vt_r1 (List.mem_of_getElem? (i := 101) rfl)) rfl
theorem k_f_SampleDesk_91 : Cond.fieldLink RX8 91 "SampleDesk$Tape" "place" "I" ∈ vT := vT_in (vt_r1 (List.mem_of_getElem? (i := 102) rfl)) rfl
theorem k_lay_Tape_words : Cond.laysFinal RX7 "SampleDesk$Tape" "words" "[I" ∈ vT := vT_in (vt_r1 (List.mem_of_getElem? (i := 103) rfl)) rfl
theorem k_lay_Tape_size : Cond.lays RX7 "SampleDesk$Tape" "size" "I" ∈ vT := vT_in (vt_r1 (List.mem_of_getElem? (i := 105) rfl)) rfl
theorem k_lay_Tape_place : Cond.lays RX7 "SampleDesk$Tape" "place" "I" ∈ vT := vT_in (vt_r1 (List.mem_of_getElem? (i := 107) rfl)) rfl
theorem k_cl_SampleDesk_26 : Cond.classLink RX8 26 RX5 ∈ vT := vT_in (vt_r1 (List.mem_of_getElem? (i := 110) rfl)) rfl
theorem k_inst_Sampler : Cond.instantiable RX5 4 ∈ vT := vT_in (vt_r1 (List.mem_of_getElem? (i := 111) rfl)) rfl
theorem k_cl_SampleDesk_28 : Cond.classLink RX8 28 RX1 ∈ vT := vT_in (vt_r1 (List.mem_of_getElem? (i := 112) rfl)) rfl
theorem k_inst_Laws : Cond.instantiable RX1 1 ∈ vT := vT_in (vt_r1 (List.mem_of_getElem? (i := 113) rfl)) rfl
theorem k_m_SampleDesk_30 : Cond.methodLink RX8 30 yX1_init ∈ vT := vT_in (vt_r1 (List.mem_of_getElem? (i := 114) rfl)) rfl
theorem k_instanceMethod_X1_init : Cond.instanceMethod yX1_init ∈ vT := vT_in (vt_r1 (List.mem_of_getElem? (i := 115) rfl)) rfl
theorem k_code_X1_init : Cond.code yX1_init cX1_init 2 (none : Option FieldType) ∈ vT := vT_in (vt_r1 (List.mem_of_getElem? (i := 116) rfl)) rfl
theorem k_m_Laws_3 : Cond.methodLink RX1 3 objectInit ∈ vT := vT_in (vt_r1 (List.mem_of_getElem? (i := 117) rfl)) rfl
theorem k_f_Laws_9 : Cond.fieldLink RX1 9 "SampleDesk$Laws" "dice" "LSampleDesk$Dice;" ∈ vT := vT_in (vt_r1 (List.mem_of_getElem? (i := 118) rfl)) rfl
theorem k_lay_Laws_dice : Cond.laysFinal RX1 "SampleDesk$Laws" "dice" "LSampleDesk$Dice;" ∈ vT := vT_in (vt_r1 (List.mem_of_getElem? (i := 119) rfl)) rfl
theorem k_cl_SampleDesk_33 : Cond.classLink RX8 33 RX4 ∈ vT := vT_in (vt_r1 (List.mem_of_getElem? (i := 122) rfl)) rfl
theorem k_inst_Rows : Cond.instantiable RX4 6 ∈ vT := vT_in (vt_r1 (List.mem_of_getElem? (i := 123) rfl)) rfl
theorem k_m_SampleDesk_35 : Cond.methodLink RX8 35 yX4_init ∈ vT := vT_in (vt_r1 (List.mem_of_getElem? (i := 124) rfl)) rfl
theorem k_instanceMethod_X4_init : Cond.instanceMethod yX4_init ∈ vT := vT_in (vt_r1 (List.mem_of_getElem? (i := 125) rfl)) rfl
theorem k_code_X4_init : Cond.code yX4_init cX4_init 2 (none : Option FieldType) ∈ vT := vT_in (vt_r1 (List.mem_of_getElem? (i := 126) rfl)) rfl
theorem k_m_Rows_3 : Cond.methodLink RX4 3 objectInit ∈ vT := vT_in (vt_r1 (List.mem_of_getElem? (i := 127) rfl)) rfl
theorem k_f_Rows_28 : Cond.fieldLink RX4 28 "SampleDesk$Rows" "dice" "LSampleDesk$Dice;" ∈ vT := vT_in (vt_r1 (List.mem_of_getElem? (i := 128) rfl)) rfl
theorem k_f_Rows_9 : Cond.fieldLink RX4 9 "SampleDesk$Rows" "steps" "[I" ∈ vT := vT_in (vt_r1 (List.mem_of_getElem? (i := 129) rfl)) rfl
theorem k_f_Rows_15 : Cond.fieldLink RX4 15 "SampleDesk$Rows" "ups" "[I" ∈ vT := vT_in (vt_r1 (List.mem_of_getElem? (i := 130) rfl)) rfl
theorem k_f_Rows_18 : Cond.fieldLink RX4 18 "SampleDesk$Rows" "pending" "[I" ∈ vT := vT_in (vt_r1 (List.mem_of_getElem? (i := 131) rfl)) rfl
theorem k_f_Rows_21 : Cond.fieldLink RX4 21 "SampleDesk$Rows" "items" "[I" ∈ vT := vT_in (vt_r1 (List.mem_of_getElem? (i := 132) rfl)) rfl
theorem k_f_SampleDesk_197 : Cond.fieldLink RX8 197 "SampleDesk$Rows" "items" "[I" ∈ vT := vT_in (vt_r1 (List.mem_of_getElem? (i := 133) rfl)) rfl
theorem k_f_Rows_24 : Cond.fieldLink RX4 24 "SampleDesk$Rows" "size" "I" ∈ vT := vT_in (vt_r1 (List.mem_of_getElem? (i := 134) rfl)) rfl
theorem k_f_Sampler_41 : Cond.fieldLink RX5 41 "SampleDesk$Rows" "size" "I" ∈ vT := vT_in (vt_r1 (List.mem_of_getElem? (i := 135) rfl)) rfl
theorem k_f_SampleDesk_196 : Cond.fieldLink RX8 196 "SampleDesk$Rows" "size" "I" ∈ vT := vT_in (vt_r1 (List.mem_of_getElem? (i := 136) rfl)) rfl
theorem k_lay_Rows_dice : Cond.laysFinal RX4 "SampleDesk$Rows" "dice" "LSampleDesk$Dice;" ∈ vT := vT_in (vt_r1 (List.mem_of_getElem? (i := 137) rfl)) rfl
theorem k_lay_Rows_steps : Cond.laysFinal RX4 "SampleDesk$Rows" "steps" "[I" ∈ vT := vT_in (vt_r1 (List.mem_of_getElem? (i := 139) rfl)) rfl
theorem k_lay_Rows_ups : Cond.laysFinal RX4 "SampleDesk$Rows" "ups" "[I" ∈ vT := vT_in (vt_r1 (List.mem_of_getElem? (i := 141) rfl)) rfl
theorem k_lay_Rows_pending : Cond.laysFinal RX4 "SampleDesk$Rows" "pending" "[I" ∈ vT := vT_in (vt_r1 (List.mem_of_getElem? (i := 143) rfl)) rfl
theorem k_lay_Rows_items : Cond.laysFinal RX4 "SampleDesk$Rows" "items" "[I" ∈ vT := vT_in (vt_r1 (List.mem_of_getElem? (i := 145) rfl)) rfl
theorem k_lay_Rows_size : Cond.lays RX4 "SampleDesk$Rows" "size" "I" ∈ vT := vT_in (vt_r1 (List.mem_of_getElem? (i := 147) rfl)) rfl
theorem k_m_SampleDesk_36 : Cond.methodLink RX8 36 yX5_init ∈ vT := vT_in (vt_r1 (List.mem_of_getElem? (i := 150) rfl)) rfl
theorem k_instanceMethod_X5_init : Cond.instanceMethod yX5_init ∈ vT := vT_in (vt_r1 (List.mem_of_getElem? (i := 151) rfl)) rfl
theorem k_code_X5_init : Cond.code yX5_init cX5_init 5 (none : Option FieldType) ∈ vT := vT_in (vt_r1 (List.mem_of_getElem? (i := 152) rfl)) rfl
theorem k_m_Sampler_3 : Cond.methodLink RX5 3 objectInit ∈ vT := vT_in (vt_r1 (List.mem_of_getElem? (i := 153) rfl)) rfl
theorem k_f_Sampler_9 : Cond.fieldLink RX5 9 "SampleDesk$Sampler" "tables" "[LSampleDesk$Table;" ∈ vT := vT_in (vt_r1 (List.mem_of_getElem? (i := 154) rfl)) rfl
theorem k_f_Sampler_19 : Cond.fieldLink RX5 19 "SampleDesk$Sampler" "laws" "LSampleDesk$Laws;" ∈ vT := vT_in (vt_r1 (List.mem_of_getElem? (i := 155) rfl)) rfl
theorem k_f_Sampler_15 : Cond.fieldLink RX5 15 "SampleDesk$Sampler" "dice" "LSampleDesk$Dice;" ∈ vT := vT_in (vt_r1 (List.mem_of_getElem? (i := 156) rfl)) rfl
theorem k_f_SampleDesk_137 : Cond.fieldLink RX8 137 "SampleDesk$Sampler" "dice" "LSampleDesk$Dice;" ∈ vT := vT_in (vt_r1 (List.mem_of_getElem? (i := 157) rfl)) rfl
theorem k_f_Sampler_23 : Cond.fieldLink RX5 23 "SampleDesk$Sampler" "rows" "LSampleDesk$Rows;" ∈ vT := vT_in (vt_r1 (List.mem_of_getElem? (i := 158) rfl)) rfl
theorem k_f_SampleDesk_179 : Cond.fieldLink RX8 179 "SampleDesk$Sampler" "rows" "LSampleDesk$Rows;" ∈ vT := vT_in (vt_r1 (List.mem_of_getElem? (i := 159) rfl)) rfl
theorem k_lay_Sampler_tables : Cond.laysFinal RX5 "SampleDesk$Sampler" "tables" "[LSampleDesk$Table;" ∈ vT := vT_in (vt_r1 (List.mem_of_getElem? (i := 160) rfl)) rfl
theorem k_lay_Sampler_laws : Cond.laysFinal RX5 "SampleDesk$Sampler" "laws" "LSampleDesk$Laws;" ∈ vT := vT_in (vt_r1 (List.mem_of_getElem? (i := 162) rfl)) rfl
theorem k_lay_Sampler_dice : Cond.laysFinal RX5 "SampleDesk$Sampler" "dice" "LSampleDesk$Dice;" ∈ vT := vT_in (vt_r1 (List.mem_of_getElem? (i := 164) rfl)) rfl
theorem k_lay_Sampler_rows : Cond.laysFinal RX5 "SampleDesk$Sampler" "rows" "LSampleDesk$Rows;" ∈ vT := vT_in (vt_r1 (List.mem_of_getElem? (i := 166) rfl)) rfl
theorem k_cl_SampleDesk_43 : Cond.classLink RX8 43 RX3 ∈ vT := vT_in (vt_r1 (List.mem_of_getElem? (i := 169) rfl)) rfl
theorem k_inst_Order : Cond.instantiable RX3 4 ∈ vT := vT_in (vt_r1 (List.mem_of_getElem? (i := 170) rfl)) rfl
theorem k_mn_SampleDesk_45 : Cond.methodLinkNest RX8 45 yX3_init "SampleDesk" ∈ lw_tbl := List.mem_append_right _ (vt_r1 (List.mem_of_getElem? (i := 171) rfl))
theorem k_instanceMethod_X3_init : Cond.instanceMethod yX3_init ∈ vT := vT_in (vt_r1 (List.mem_of_getElem? (i := 172) rfl)) rfl
theorem k_code_X3_init : Cond.code yX3_init cX3_init 1 (none : Option FieldType) ∈ vT := vT_in (vt_r1 (List.mem_of_getElem? (i := 173) rfl)) rfl
theorem k_m_Order_3 : Cond.methodLink RX3 3 objectInit ∈ vT := vT_in (vt_r1 (List.mem_of_getElem? (i := 174) rfl)) rfl
theorem k_f_Sampler_27 : Cond.fieldLink RX5 27 "SampleDesk$Order" "kind" "I" ∈ vT := vT_in (vt_r1 (List.mem_of_getElem? (i := 175) rfl)) rfl
theorem k_f_Order_9 : Cond.fieldLink RX3 9 "SampleDesk$Order" "kind" "I" ∈ vT := vT_in (vt_r1 (List.mem_of_getElem? (i := 176) rfl)) rfl
theorem k_f_Log_23 : Cond.fieldLink RX2 23 "SampleDesk$Order" "kind" "I" ∈ vT := vT_in (vt_r1 (List.mem_of_getElem? (i := 177) rfl)) rfl
theorem k_f_SampleDesk_193 : Cond.fieldLink RX8 193 "SampleDesk$Order" "kind" "I" ∈ vT := vT_in (vt_r1 (List.mem_of_getElem? (i := 178) rfl)) rfl
theorem k_f_Order_15 : Cond.fieldLink RX3 15 "SampleDesk$Order" "a" "I" ∈ vT := vT_in (vt_r1 (List.mem_of_getElem? (i := 179) rfl)) rfl
theorem k_f_Sampler_33 : Cond.fieldLink RX5 33 "SampleDesk$Order" "a" "I" ∈ vT := vT_in (vt_r1 (List.mem_of_getElem? (i := 180) rfl)) rfl
theorem k_f_Log_28 : Cond.fieldLink RX2 28 "SampleDesk$Order" "a" "I" ∈ vT := vT_in (vt_r1 (List.mem_of_getElem? (i := 181) rfl)) rfl
theorem k_f_Order_18 : Cond.fieldLink RX3 18 "SampleDesk$Order" "b" "I" ∈ vT := vT_in (vt_r1 (List.mem_of_getElem? (i := 182) rfl)) rfl
theorem k_f_Log_31 : Cond.fieldLink RX2 31 "SampleDesk$Order" "b" "I" ∈ vT := vT_in (vt_r1 (List.mem_of_getElem? (i := 183) rfl)) rfl
theorem k_f_Sampler_60 : Cond.fieldLink RX5 60 "SampleDesk$Order" "b" "I" ∈ vT := vT_in (vt_r1 (List.mem_of_getElem? (i := 184) rfl)) rfl
theorem k_f_Order_21 : Cond.fieldLink RX3 21 "SampleDesk$Order" "c" "I" ∈ vT := vT_in (vt_r1 (List.mem_of_getElem? (i := 185) rfl)) rfl
theorem k_f_Log_34 : Cond.fieldLink RX2 34 "SampleDesk$Order" "c" "I" ∈ vT := vT_in (vt_r1 (List.mem_of_getElem? (i := 186) rfl)) rfl
theorem k_f_Sampler_67 : Cond.fieldLink RX5 67 "SampleDesk$Order" "c" "I" ∈ vT := vT_in (vt_r1 (List.mem_of_getElem? (i := 187) rfl)) rfl
theorem k_lay_Order_kind : Cond.lays RX3 "SampleDesk$Order" "kind" "I" ∈ vT := vT_in (vt_r1 (List.mem_of_getElem? (i := 188) rfl)) rfl
theorem k_lay_Order_a : Cond.lays RX3 "SampleDesk$Order" "a" "I" ∈ vT := vT_in (vt_r1 (List.mem_of_getElem? (i := 190) rfl)) rfl
theorem k_lay_Order_b : Cond.lays RX3 "SampleDesk$Order" "b" "I" ∈ vT := vT_in (vt_r1 (List.mem_of_getElem? (i := 192) rfl)) rfl
theorem k_lay_Order_c : Cond.lays RX3 "SampleDesk$Order" "c" "I" ∈ vT := vT_in (vt_r1 (List.mem_of_getElem? (i := 194) rfl)) rfl
theorem k_cl_SampleDesk_50 : Cond.classLink RX8 50 RX2 ∈ vT := vT_in (vt_r1 (List.mem_of_getElem? (i := 197) rfl)) rfl
theorem k_inst_Log : Cond.instantiable RX2 4 ∈ vT := vT_in (vt_r1 (List.mem_of_getElem? (i := 198) rfl)) rfl
theorem k_mn_SampleDesk_52 : Cond.methodLinkNest RX8 52 yX2_init "SampleDesk" ∈ lw_tbl := List.mem_append_right _ (vt_r1 (List.mem_of_getElem? (i := 199) rfl))
theorem k_instanceMethod_X2_init : Cond.instanceMethod yX2_init ∈ vT := vT_in (vt_r1 (List.mem_of_getElem? (i := 200) rfl)) rfl
theorem k_code_X2_init : Cond.code yX2_init cX2_init 1 (none : Option FieldType) ∈ vT := vT_in (vt_r1 (List.mem_of_getElem? (i := 201) rfl)) rfl
theorem k_m_Log_1 : Cond.methodLink RX2 1 objectInit ∈ vT := vT_in (vt_r1 (List.mem_of_getElem? (i := 202) rfl)) rfl
theorem k_f_Log_9 : Cond.fieldLink RX2 9 "SampleDesk$Log" "cells" "[J" ∈ vT := vT_in (vt_r1 (List.mem_of_getElem? (i := 203) rfl)) rfl
theorem k_f_Log_13 : Cond.fieldLink RX2 13 "SampleDesk$Log" "next" "I" ∈ vT := vT_in (vt_r1 (List.mem_of_getElem? (i := 204) rfl)) rfl
theorem k_f_Log_17 : Cond.fieldLink RX2 17 "SampleDesk$Log" "size" "I" ∈ vT := vT_in (vt_r1 (List.mem_of_getElem? (i := 205) rfl)) rfl
theorem k_f_SampleDesk_170 : Cond.fieldLink RX8 170 "SampleDesk$Log" "size" "I" ∈ vT := vT_in (vt_r1 (List.mem_of_getElem? (i := 206) rfl)) rfl
theorem k_f_Log_20 : Cond.fieldLink RX2 20 "SampleDesk$Log" "draws" "I" ∈ vT := vT_in (vt_r1 (List.mem_of_getElem? (i := 207) rfl)) rfl
theorem k_f_SampleDesk_186 : Cond.fieldLink RX8 186 "SampleDesk$Log" "draws" "I" ∈ vT := vT_in (vt_r1 (List.mem_of_getElem? (i := 208) rfl)) rfl
theorem k_lay_Log_cells : Cond.laysFinal RX2 "SampleDesk$Log" "cells" "[J" ∈ vT := vT_in (vt_r1 (List.mem_of_getElem? (i := 209) rfl)) rfl
theorem k_lay_Log_next : Cond.lays RX2 "SampleDesk$Log" "next" "I" ∈ vT := vT_in (vt_r1 (List.mem_of_getElem? (i := 211) rfl)) rfl
theorem k_lay_Log_size : Cond.lays RX2 "SampleDesk$Log" "size" "I" ∈ vT := vT_in (vt_r1 (List.mem_of_getElem? (i := 213) rfl)) rfl
theorem k_lay_Log_draws : Cond.lays RX2 "SampleDesk$Log" "draws" "I" ∈ vT := vT_in (vt_r1 (List.mem_of_getElem? (i := 215) rfl)) rfl
theorem k_f_SampleDesk_18 : Cond.fieldLink RX8 18 "SampleDesk" "tape" "LSampleDesk$Tape;" ∈ vT := vT_in (vt_r1 (List.mem_of_getElem? (i := 218) rfl)) rfl
theorem k_f_SampleDesk_22 : Cond.fieldLink RX8 22 "SampleDesk" "tables" "[LSampleDesk$Table;" ∈ vT := vT_in (vt_r1 (List.mem_of_getElem? (i := 219) rfl)) rfl
theorem k_f_SampleDesk_39 : Cond.fieldLink RX8 39 "SampleDesk" "sampler" "LSampleDesk$Sampler;" ∈ vT := vT_in (vt_r1 (List.mem_of_getElem? (i := 220) rfl)) rfl
theorem k_f_SampleDesk_46 : Cond.fieldLink RX8 46 "SampleDesk" "order" "LSampleDesk$Order;" ∈ vT := vT_in (vt_r1 (List.mem_of_getElem? (i := 221) rfl)) rfl
theorem k_f_SampleDesk_53 : Cond.fieldLink RX8 53 "SampleDesk" "log" "LSampleDesk$Log;" ∈ vT := vT_in (vt_r1 (List.mem_of_getElem? (i := 222) rfl)) rfl
theorem k_f_SampleDesk_57 : Cond.fieldLink RX8 57 "SampleDesk" "string" "[I" ∈ vT := vT_in (vt_r1 (List.mem_of_getElem? (i := 223) rfl)) rfl
theorem k_f_SampleDesk_61 : Cond.fieldLink RX8 61 "SampleDesk" "items" "[I" ∈ vT := vT_in (vt_r1 (List.mem_of_getElem? (i := 224) rfl)) rfl
theorem k_f_SampleDesk_64 : Cond.fieldLink RX8 64 "SampleDesk" "itemCount" "I" ∈ vT := vT_in (vt_r1 (List.mem_of_getElem? (i := 225) rfl)) rfl
theorem k_f_SampleDesk_68 : Cond.fieldLink RX8 68 "SampleDesk" "latestBits" "I" ∈ vT := vT_in (vt_r1 (List.mem_of_getElem? (i := 226) rfl)) rfl
theorem k_lay_SampleDesk_tape : Cond.laysFinal RX8 "SampleDesk" "tape" "LSampleDesk$Tape;" ∈ vT := vT_in (vt_r1 (List.mem_of_getElem? (i := 227) rfl)) rfl
theorem k_lay_SampleDesk_tables : Cond.laysFinal RX8 "SampleDesk" "tables" "[LSampleDesk$Table;" ∈ vT := vT_in (vt_r1 (List.mem_of_getElem? (i := 229) rfl)) rfl
theorem k_lay_SampleDesk_sampler : Cond.laysFinal RX8 "SampleDesk" "sampler" "LSampleDesk$Sampler;" ∈ vT := vT_in (vt_r1 (List.mem_of_getElem? (i := 231) rfl)) rfl
theorem k_lay_SampleDesk_order : Cond.laysFinal RX8 "SampleDesk" "order" "LSampleDesk$Order;" ∈ vT := vT_in (vt_r1 (List.mem_of_getElem? (i := 233) rfl)) rfl
theorem k_lay_SampleDesk_log : Cond.laysFinal RX8 "SampleDesk" "log" "LSampleDesk$Log;" ∈ vT := vT_in (vt_r1 (List.mem_of_getElem? (i := 235) rfl)) rfl
theorem k_lay_SampleDesk_string : Cond.laysFinal RX8 "SampleDesk" "string" "[I" ∈ vT := vT_in (vt_r1 (List.mem_of_getElem? (i := 237) rfl)) rfl
theorem k_lay_SampleDesk_items : Cond.laysFinal RX8 "SampleDesk" "items" "[I" ∈ vT := vT_in (vt_r1 (List.mem_of_getElem? (i := 239) rfl)) rfl
theorem k_lay_SampleDesk_itemCount : Cond.lays RX8 "SampleDesk" "itemCount" "I" ∈ vT := vT_in (vt_r2 (List.mem_of_getElem? (i := 1) rfl)) rfl
theorem k_lay_SampleDesk_latestBits : Cond.lays RX8 "SampleDesk" "latestBits" "I" ∈ vT := vT_in (vt_r2 (List.mem_of_getElem? (i := 3) rfl)) rfl
theorem k_m_SampleDeskLaw_115 : Cond.methodLink RL 115 yX8_count ∈ vT := vT_in (vt_r2 (List.mem_of_getElem? (i := 6) rfl)) rfl
theorem k_instanceMethod_X8_count : Cond.instanceMethod yX8_count ∈ vT := vT_in (vt_r2 (List.mem_of_getElem? (i := 7) rfl)) rfl
theorem k_selects_X8_count : Cond.selects RX8 yX8_count yX8_count ∈ vT := vT_in (vt_r2 (List.mem_of_getElem? (i := 8) rfl)) rfl
theorem k_code_X8_count : Cond.code yX8_count cX8_count 2 (some .int) ∈ vT := vT_in (vt_r2 (List.mem_of_getElem? (i := 9) rfl)) rfl
theorem k_m_SampleDeskLaw_67 : Cond.methodLink RL 67 yL_feed ∈ vT := vT_in (vt_r2 (List.mem_of_getElem? (i := 10) rfl)) rfl
theorem k_static_L_feed : Cond.static yL_feed ∈ vT := vT_in (vt_r2 (List.mem_of_getElem? (i := 11) rfl)) rfl
theorem k_codeWith_L_feed : Cond.codeWith yL_feed cL_feed 7 (some .int) [(0, 14, 17, 13)] ∈ vT := vT_in (vt_r2 (List.mem_of_getElem? (i := 12) rfl)) rfl
theorem k_cl_SampleDeskLaw_13 : Cond.classLink RL 13 "java/lang/IllegalStateException" ∈ vT := vT_in (vt_r2 (List.mem_of_getElem? (i := 13) rfl)) rfl
theorem k_m_SampleDeskLaw_7 : Cond.methodLink RL 7 yX8_feed ∈ vT := vT_in (vt_r2 (List.mem_of_getElem? (i := 14) rfl)) rfl
theorem k_instanceMethod_X8_feed : Cond.instanceMethod yX8_feed ∈ vT := vT_in (vt_r2 (List.mem_of_getElem? (i := 15) rfl)) rfl
theorem k_selects_X8_feed : Cond.selects RX8 yX8_feed yX8_feed ∈ vT := vT_in (vt_r2 (List.mem_of_getElem? (i := 16) rfl)) rfl
theorem k_code_X8_feed : Cond.code yX8_feed cX8_feed 5 (some .int) ∈ vT := vT_in (vt_r2 (List.mem_of_getElem? (i := 17) rfl)) rfl
theorem k_cl_SampleDesk_74 : Cond.classLink RX8 74 "java/lang/IllegalStateException" ∈ vT := vT_in (vt_r2 (List.mem_of_getElem? (i := 18) rfl)) rfl
theorem k_inst_java_lang_IllegalStateException : Cond.instantiable "java/lang/IllegalStateException" 6 ∈ vT := vT_in (vt_r2 (List.mem_of_getElem? (i := 19) rfl)) rfl
theorem k_selects_267 : Cond.selects "java/lang/IllegalStateException" ⟨"java/lang/Throwable", "fillInStackTrace", "(I)Ljava/lang/Throwable;"⟩ ⟨"java/lang/Throwable", "fillInStackTrace", "(I)Ljava/lang/Throwable;"⟩ ∈ vT := vT_in (vt_r2 (List.mem_of_getElem? (i := 27) rfl)) rfl
theorem k_selects_268 : Cond.selects "java/lang/IllegalStateException" ⟨"java/lang/Throwable", "fillInStackTrace", "()Ljava/lang/Throwable;"⟩ ⟨"java/lang/Throwable", "fillInStackTrace", "()Ljava/lang/Throwable;"⟩ ∈ vT := vT_in (vt_r2 (List.mem_of_getElem? (i := 28) rfl)) rfl
theorem k_f_java_lang_Throwable_198 : Cond.fieldLink "java/lang/Throwable" 198 "java/lang/Throwable" "backtrace" "Ljava/lang/Object;" ∈ vT := vT_in (vt_r2 (List.mem_of_getElem? (i := 39) rfl)) rfl
theorem k_instanceMethod_281 : Cond.instanceMethod ⟨"java/lang/Throwable", "<init>", "()V"⟩ ∈ vT := vT_in (vt_r2 (List.mem_of_getElem? (i := 41) rfl)) rfl
theorem k_m_java_lang_Throwable_1 : Cond.methodLink "java/lang/Throwable" 1 objectInit ∈ vT := vT_in (vt_r2 (List.mem_of_getElem? (i := 43) rfl)) rfl
theorem k_f_java_lang_Throwable_13 : Cond.fieldLink "java/lang/Throwable" 13 "java/lang/Throwable" "UNASSIGNED_STACK" "[Ljava/lang/StackTraceElement;" ∈ vT := vT_in (vt_r2 (List.mem_of_getElem? (i := 44) rfl)) rfl
theorem k_f_java_lang_Throwable_20 : Cond.fieldLink "java/lang/Throwable" 20 "java/lang/Throwable" "SUPPRESSED_SENTINEL" "Ljava/util/List;" ∈ vT := vT_in (vt_r2 (List.mem_of_getElem? (i := 46) rfl)) rfl
theorem k_m_java_lang_Throwable_27 : Cond.methodLink "java/lang/Throwable" 27 ⟨"java/lang/Throwable", "fillInStackTrace", "()Ljava/lang/Throwable;"⟩ ∈ vT := vT_in (vt_r2 (List.mem_of_getElem? (i := 48) rfl)) rfl
theorem k_instanceMethod_289 : Cond.instanceMethod ⟨"java/lang/Throwable", "fillInStackTrace", "()Ljava/lang/Throwable;"⟩ ∈ vT := vT_in (vt_r2 (List.mem_of_getElem? (i := 49) rfl)) rfl
theorem k_selects_291 : Cond.selects "java/lang/IllegalArgumentException" ⟨"java/lang/Throwable", "fillInStackTrace", "()Ljava/lang/Throwable;"⟩ ⟨"java/lang/Throwable", "fillInStackTrace", "()Ljava/lang/Throwable;"⟩ ∈ vT := vT_in (vt_r2 (List.mem_of_getElem? (i := 51) rfl)) rfl
theorem k_selects_292 : Cond.selects "java/lang/IndexOutOfBoundsException" ⟨"java/lang/Throwable", "fillInStackTrace", "()Ljava/lang/Throwable;"⟩ ⟨"java/lang/Throwable", "fillInStackTrace", "()Ljava/lang/Throwable;"⟩ ∈ vT := vT_in (vt_r2 (List.mem_of_getElem? (i := 52) rfl)) rfl
theorem k_selects_293 : Cond.selects "java/util/NoSuchElementException" ⟨"java/lang/Throwable", "fillInStackTrace", "()Ljava/lang/Throwable;"⟩ ⟨"java/lang/Throwable", "fillInStackTrace", "()Ljava/lang/Throwable;"⟩ ∈ vT := vT_in (vt_r2 (List.mem_of_getElem? (i := 53) rfl)) rfl
theorem k_m_java_lang_Throwable_202 : Cond.methodLink "java/lang/Throwable" 202 ⟨"java/lang/Throwable", "fillInStackTrace", "(I)Ljava/lang/Throwable;"⟩ ∈ vT := vT_in (vt_r2 (List.mem_of_getElem? (i := 55) rfl)) rfl
theorem k_instanceMethod_297 : Cond.instanceMethod ⟨"java/lang/Throwable", "fillInStackTrace", "(I)Ljava/lang/Throwable;"⟩ ∈ vT := vT_in (vt_r2 (List.mem_of_getElem? (i := 57) rfl)) rfl
theorem k_inst_java_lang_Throwable : Cond.instantiable "java/lang/Throwable" 6 ∈ vT := vT_in (vt_r2 (List.mem_of_getElem? (i := 58) rfl)) rfl
theorem k_native_299 : Cond.native ⟨"java/lang/Throwable", "fillInStackTrace", "(I)Ljava/lang/Throwable;"⟩ ∈ vT := vT_in (vt_r2 (List.mem_of_getElem? (i := 59) rfl)) rfl
theorem k_m_SampleDesk_76 : Cond.methodLink RX8 76 ⟨"java/lang/IllegalStateException", "<init>", "()V"⟩ ∈ vT := vT_in (vt_r2 (List.mem_of_getElem? (i := 60) rfl)) rfl
theorem k_instanceMethod_301 : Cond.instanceMethod ⟨"java/lang/IllegalStateException", "<init>", "()V"⟩ ∈ vT := vT_in (vt_r2 (List.mem_of_getElem? (i := 61) rfl)) rfl
theorem k_m_java_lang_IllegalStateException_1 : Cond.methodLink "java/lang/IllegalStateException" 1 ⟨"java/lang/RuntimeException", "<init>", "()V"⟩ ∈ vT := vT_in (vt_r2 (List.mem_of_getElem? (i := 63) rfl)) rfl
theorem k_instanceMethod_304 : Cond.instanceMethod ⟨"java/lang/RuntimeException", "<init>", "()V"⟩ ∈ vT := vT_in (vt_r2 (List.mem_of_getElem? (i := 64) rfl)) rfl
theorem k_m_java_lang_RuntimeException_1 : Cond.methodLink "java/lang/RuntimeException" 1 ⟨"java/lang/Exception", "<init>", "()V"⟩ ∈ vT := vT_in (vt_r2 (List.mem_of_getElem? (i := 66) rfl)) rfl
theorem k_instanceMethod_307 : Cond.instanceMethod ⟨"java/lang/Exception", "<init>", "()V"⟩ ∈ vT := vT_in (vt_r2 (List.mem_of_getElem? (i := 67) rfl)) rfl
theorem k_m_java_lang_Exception_1 : Cond.methodLink "java/lang/Exception" 1 ⟨"java/lang/Throwable", "<init>", "()V"⟩ ∈ vT := vT_in (vt_r2 (List.mem_of_getElem? (i := 69) rfl)) rfl
theorem k_f_java_lang_Throwable_7 : Cond.fieldLink "java/lang/Throwable" 7 "java/lang/Throwable" "cause" "Ljava/lang/Throwable;" ∈ vT := vT_in (vt_r2 (List.mem_of_getElem? (i := 71) rfl)) rfl
theorem k_f_java_lang_Throwable_17 : Cond.fieldLink "java/lang/Throwable" 17 "java/lang/Throwable" "stackTrace" "[Ljava/lang/StackTraceElement;" ∈ vT := vT_in (vt_r2 (List.mem_of_getElem? (i := 72) rfl)) rfl
theorem k_f_java_lang_Throwable_24 : Cond.fieldLink "java/lang/Throwable" 24 "java/lang/Throwable" "suppressedExceptions" "Ljava/util/List;" ∈ vT := vT_in (vt_r2 (List.mem_of_getElem? (i := 73) rfl)) rfl
theorem k_m_SampleDesk_77 : Cond.methodLink RX8 77 yX7_append ∈ vT := vT_in (vt_r2 (List.mem_of_getElem? (i := 82) rfl)) rfl
theorem k_instanceMethod_X7_append : Cond.instanceMethod yX7_append ∈ vT := vT_in (vt_r2 (List.mem_of_getElem? (i := 83) rfl)) rfl
theorem k_selects_X7_append : Cond.selects RX7 yX7_append yX7_append ∈ vT := vT_in (vt_r2 (List.mem_of_getElem? (i := 84) rfl)) rfl
theorem k_code_X7_append : Cond.code yX7_append cX7_append 3 (none : Option FieldType) ∈ vT := vT_in (vt_r2 (List.mem_of_getElem? (i := 85) rfl)) rfl
theorem k_m_SampleDeskLaw_77 : Cond.methodLink RL 77 yL_bit ∈ vT := vT_in (vt_r2 (List.mem_of_getElem? (i := 86) rfl)) rfl
theorem k_static_L_bit : Cond.static yL_bit ∈ vT := vT_in (vt_r2 (List.mem_of_getElem? (i := 87) rfl)) rfl
theorem k_codeWith_L_bit : Cond.codeWith yL_bit cL_bit 5 (some .int) [(0, 10, 13, 19), (0, 10, 17, 21)] ∈ vT := vT_in (vt_r2 (List.mem_of_getElem? (i := 88) rfl)) rfl
theorem k_cl_SampleDeskLaw_19 : Cond.classLink RL 19 "java/lang/IndexOutOfBoundsException" ∈ vT := vT_in (vt_r2 (List.mem_of_getElem? (i := 89) rfl)) rfl
theorem k_cl_SampleDeskLaw_21 : Cond.classLink RL 21 "java/lang/IllegalArgumentException" ∈ vT := vT_in (vt_r2 (List.mem_of_getElem? (i := 90) rfl)) rfl
theorem k_m_SampleDeskLaw_15 : Cond.methodLink RL 15 yX8_bit ∈ vT := vT_in (vt_r2 (List.mem_of_getElem? (i := 91) rfl)) rfl
theorem k_instanceMethod_X8_bit : Cond.instanceMethod yX8_bit ∈ vT := vT_in (vt_r2 (List.mem_of_getElem? (i := 92) rfl)) rfl
theorem k_selects_X8_bit : Cond.selects RX8 yX8_bit yX8_bit ∈ vT := vT_in (vt_r2 (List.mem_of_getElem? (i := 93) rfl)) rfl
theorem k_code_X8_bit : Cond.code yX8_bit cX8_bit 3 (some .int) ∈ vT := vT_in (vt_r2 (List.mem_of_getElem? (i := 94) rfl)) rfl
theorem k_cl_SampleDesk_81 : Cond.classLink RX8 81 "java/lang/IndexOutOfBoundsException" ∈ vT := vT_in (vt_r2 (List.mem_of_getElem? (i := 95) rfl)) rfl
theorem k_inst_java_lang_IndexOutOfBoundsException : Cond.instantiable "java/lang/IndexOutOfBoundsException" 6 ∈ vT := vT_in (vt_r2 (List.mem_of_getElem? (i := 96) rfl)) rfl
theorem k_selects_338 : Cond.selects "java/lang/IndexOutOfBoundsException" ⟨"java/lang/Throwable", "fillInStackTrace", "(I)Ljava/lang/Throwable;"⟩ ⟨"java/lang/Throwable", "fillInStackTrace", "(I)Ljava/lang/Throwable;"⟩ ∈ vT := vT_in (vt_r2 (List.mem_of_getElem? (i := 98) rfl)) rfl
theorem k_m_SampleDesk_83 : Cond.methodLink RX8 83 ⟨"java/lang/IndexOutOfBoundsException", "<init>", "()V"⟩ ∈ vT := vT_in (vt_r2 (List.mem_of_getElem? (i := 104) rfl)) rfl
theorem k_instanceMethod_345 : Cond.instanceMethod ⟨"java/lang/IndexOutOfBoundsException", "<init>", "()V"⟩ ∈ vT := vT_in (vt_r2 (List.mem_of_getElem? (i := 105) rfl)) rfl
theorem k_m_java_lang_IndexOutOfBoundsException_1 : Cond.methodLink "java/lang/IndexOutOfBoundsException" 1 ⟨"java/lang/RuntimeException", "<init>", "()V"⟩ ∈ vT := vT_in (vt_r2 (List.mem_of_getElem? (i := 107) rfl)) rfl
theorem k_cl_SampleDesk_84 : Cond.classLink RX8 84 "java/lang/IllegalArgumentException" ∈ vT := vT_in (vt_r2 (List.mem_of_getElem? (i := 110) rfl)) rfl
theorem k_inst_java_lang_IllegalArgumentException : Cond.instantiable "java/lang/IllegalArgumentException" 6 ∈ vT := vT_in (vt_r2 (List.mem_of_getElem? (i := 111) rfl)) rfl
theorem k_selects_353 : Cond.selects "java/lang/IllegalArgumentException" ⟨"java/lang/Throwable", "fillInStackTrace", "(I)Ljava/lang/Throwable;"⟩ ⟨"java/lang/Throwable", "fillInStackTrace", "(I)Ljava/lang/Throwable;"⟩ ∈ vT := vT_in (vt_r2 (List.mem_of_getElem? (i := 113) rfl)) rfl
theorem k_m_SampleDesk_86 : Cond.methodLink RX8 86 ⟨"java/lang/IllegalArgumentException", "<init>", "()V"⟩ ∈ vT := vT_in (vt_r2 (List.mem_of_getElem? (i := 119) rfl)) rfl
theorem k_instanceMethod_360 : Cond.instanceMethod ⟨"java/lang/IllegalArgumentException", "<init>", "()V"⟩ ∈ vT := vT_in (vt_r2 (List.mem_of_getElem? (i := 120) rfl)) rfl
theorem k_m_java_lang_IllegalArgumentException_1 : Cond.methodLink "java/lang/IllegalArgumentException" 1 ⟨"java/lang/RuntimeException", "<init>", "()V"⟩ ∈ vT := vT_in (vt_r2 (List.mem_of_getElem? (i := 122) rfl)) rfl
theorem k_m_SampleDesk_87 : Cond.methodLink RX8 87 yX7_exchange ∈ vT := vT_in (vt_r2 (List.mem_of_getElem? (i := 125) rfl)) rfl
theorem k_instanceMethod_X7_exchange : Cond.instanceMethod yX7_exchange ∈ vT := vT_in (vt_r2 (List.mem_of_getElem? (i := 126) rfl)) rfl
theorem k_selects_X7_exchange : Cond.selects RX7 yX7_exchange yX7_exchange ∈ vT := vT_in (vt_r2 (List.mem_of_getElem? (i := 127) rfl)) rfl
theorem k_code_X7_exchange : Cond.code yX7_exchange cX7_exchange 5 (some .int) ∈ vT := vT_in (vt_r2 (List.mem_of_getElem? (i := 128) rfl)) rfl
theorem k_m_SampleDeskLaw_81 : Cond.methodLink RL 81 yL_rewind ∈ vT := vT_in (vt_r2 (List.mem_of_getElem? (i := 129) rfl)) rfl
theorem k_static_L_rewind : Cond.static yL_rewind ∈ vT := vT_in (vt_r2 (List.mem_of_getElem? (i := 130) rfl)) rfl
theorem k_codeWith_L_rewind : Cond.codeWith yL_rewind cL_rewind 4 (some .int) [(0, 9, 12, 19)] ∈ vT := vT_in (vt_r2 (List.mem_of_getElem? (i := 131) rfl)) rfl
theorem k_m_SampleDeskLaw_23 : Cond.methodLink RL 23 yX8_rewind ∈ vT := vT_in (vt_r2 (List.mem_of_getElem? (i := 132) rfl)) rfl
theorem k_instanceMethod_X8_rewind : Cond.instanceMethod yX8_rewind ∈ vT := vT_in (vt_r2 (List.mem_of_getElem? (i := 133) rfl)) rfl
theorem k_selects_X8_rewind : Cond.selects RX8 yX8_rewind yX8_rewind ∈ vT := vT_in (vt_r2 (List.mem_of_getElem? (i := 134) rfl)) rfl
theorem k_code_X8_rewind : Cond.code yX8_rewind cX8_rewind 3 (some .int) ∈ vT := vT_in (vt_r2 (List.mem_of_getElem? (i := 135) rfl)) rfl
theorem k_m_SampleDeskLaw_85 : Cond.methodLink RL 85 yL_weight ∈ vT := vT_in (vt_r2 (List.mem_of_getElem? (i := 136) rfl)) rfl
theorem k_static_L_weight : Cond.static yL_weight ∈ vT := vT_in (vt_r2 (List.mem_of_getElem? (i := 137) rfl)) rfl
theorem k_codeWith_L_weight : Cond.codeWith yL_weight cL_weight 6 (some .int) [(0, 12, 15, 19), (0, 12, 19, 21)] ∈ vT := vT_in (vt_r2 (List.mem_of_getElem? (i := 138) rfl)) rfl
theorem k_m_SampleDeskLaw_27 : Cond.methodLink RL 27 yX8_weight ∈ vT := vT_in (vt_r2 (List.mem_of_getElem? (i := 139) rfl)) rfl
theorem k_instanceMethod_X8_weight : Cond.instanceMethod yX8_weight ∈ vT := vT_in (vt_r2 (List.mem_of_getElem? (i := 140) rfl)) rfl
theorem k_selects_X8_weight : Cond.selects RX8 yX8_weight yX8_weight ∈ vT := vT_in (vt_r2 (List.mem_of_getElem? (i := 141) rfl)) rfl
theorem k_code_X8_weight : Cond.code yX8_weight cX8_weight 4 (some .int) ∈ vT := vT_in (vt_r2 (List.mem_of_getElem? (i := 142) rfl)) rfl
theorem k_m_SampleDesk_94 : Cond.methodLink RX8 94 yX8_isNoTable ∈ vT := vT_in (vt_r2 (List.mem_of_getElem? (i := 143) rfl)) rfl
theorem k_static_X8_isNoTable : Cond.static yX8_isNoTable ∈ vT := vT_in (vt_r2 (List.mem_of_getElem? (i := 144) rfl)) rfl
theorem k_code_X8_isNoTable : Cond.code yX8_isNoTable cX8_isNoTable 1 (some .boolean) ∈ vT := vT_in (vt_r2 (List.mem_of_getElem? (i := 145) rfl)) rfl
theorem k_m_SampleDesk_98 : Cond.methodLink RX8 98 yX6_exchangeWeight ∈ vT := vT_in (vt_r2 (List.mem_of_getElem? (i := 146) rfl)) rfl
theorem k_instanceMethod_X6_exchangeWeight : Cond.instanceMethod yX6_exchangeWeight ∈ vT := vT_in (vt_r2 (List.mem_of_getElem? (i := 147) rfl)) rfl
theorem k_selects_X6_exchangeWeight : Cond.selects RX6 yX6_exchangeWeight yX6_exchangeWeight ∈ vT := vT_in (vt_r2 (List.mem_of_getElem? (i := 148) rfl)) rfl
theorem k_code_X6_exchangeWeight : Cond.code yX6_exchangeWeight cX6_exchangeWeight 4 (some .int) ∈ vT := vT_in (vt_r2 (List.mem_of_getElem? (i := 149) rfl)) rfl
theorem k_m_SampleDeskLaw_89 : Cond.methodLink RL 89 yL_build ∈ vT := vT_in (vt_r2 (List.mem_of_getElem? (i := 150) rfl)) rfl
theorem k_static_L_build : Cond.static yL_build ∈ vT := vT_in (vt_r2 (List.mem_of_getElem? (i := 151) rfl)) rfl
theorem k_codeWith_L_build : Cond.codeWith yL_build cL_build 5 (some .int) [(0, 9, 12, 19), (0, 9, 16, 21), (0, 9, 20, 13)] ∈ vT := vT_in (vt_r2 (List.mem_of_getElem? (i := 152) rfl)) rfl
theorem k_m_SampleDeskLaw_31 : Cond.methodLink RL 31 yX8_build ∈ vT := vT_in (vt_r2 (List.mem_of_getElem? (i := 153) rfl)) rfl
theorem k_instanceMethod_X8_build : Cond.instanceMethod yX8_build ∈ vT := vT_in (vt_r2 (List.mem_of_getElem? (i := 154) rfl)) rfl
theorem k_selects_X8_build : Cond.selects RX8 yX8_build yX8_build ∈ vT := vT_in (vt_r2 (List.mem_of_getElem? (i := 155) rfl)) rfl
theorem k_code_X8_build : Cond.code yX8_build cX8_build 3 (some .long) ∈ vT := vT_in (vt_r2 (List.mem_of_getElem? (i := 156) rfl)) rfl
theorem k_m_SampleDesk_101 : Cond.methodLink RX8 101 yX6_sumOfWeights ∈ vT := vT_in (vt_r2 (List.mem_of_getElem? (i := 157) rfl)) rfl
theorem k_instanceMethod_X6_sumOfWeights : Cond.instanceMethod yX6_sumOfWeights ∈ vT := vT_in (vt_r2 (List.mem_of_getElem? (i := 158) rfl)) rfl
theorem k_selects_X6_sumOfWeights : Cond.selects RX6 yX6_sumOfWeights yX6_sumOfWeights ∈ vT := vT_in (vt_r2 (List.mem_of_getElem? (i := 159) rfl)) rfl
theorem k_code_X6_sumOfWeights : Cond.code yX6_sumOfWeights cX6_sumOfWeights 4 (some .long) ∈ vT := vT_in (vt_r2 (List.mem_of_getElem? (i := 160) rfl)) rfl
theorem k_m_SampleDesk_105 : Cond.methodLink RX8 105 yX6_prepare ∈ vT := vT_in (vt_r2 (List.mem_of_getElem? (i := 161) rfl)) rfl
theorem k_instanceMethod_X6_prepare : Cond.instanceMethod yX6_prepare ∈ vT := vT_in (vt_r2 (List.mem_of_getElem? (i := 162) rfl)) rfl
theorem k_selects_X6_prepare : Cond.selects RX6 yX6_prepare yX6_prepare ∈ vT := vT_in (vt_r2 (List.mem_of_getElem? (i := 163) rfl)) rfl
theorem k_code_X6_prepare : Cond.code yX6_prepare cX6_prepare 2 (none : Option FieldType) ∈ vT := vT_in (vt_r2 (List.mem_of_getElem? (i := 164) rfl)) rfl
theorem k_m_Table_36 : Cond.methodLink RX6 36 yX6_sumOfWeights ∈ vT := vT_in (vt_r2 (List.mem_of_getElem? (i := 165) rfl)) rfl
theorem k_m_Table_40 : Cond.methodLink RX6 40 yX6_pair ∈ vT := vT_in (vt_r2 (List.mem_of_getElem? (i := 166) rfl)) rfl
theorem k_instanceMethod_X6_pair : Cond.instanceMethod yX6_pair ∈ vT := vT_in (vt_r2 (List.mem_of_getElem? (i := 168) rfl)) rfl
theorem k_code_X6_pair : Cond.code yX6_pair cX6_pair 5 (none : Option FieldType) ∈ vT := vT_in (vt_r2 (List.mem_of_getElem? (i := 169) rfl)) rfl
theorem k_m_Table_43 : Cond.methodLink RX6 43 yX6_takeShares ∈ vT := vT_in (vt_r2 (List.mem_of_getElem? (i := 170) rfl)) rfl
theorem k_instanceMethod_X6_takeShares : Cond.instanceMethod yX6_takeShares ∈ vT := vT_in (vt_r2 (List.mem_of_getElem? (i := 172) rfl)) rfl
theorem k_code_X6_takeShares : Cond.code yX6_takeShares cX6_takeShares 3 (some .int) ∈ vT := vT_in (vt_r2 (List.mem_of_getElem? (i := 173) rfl)) rfl
theorem k_m_Table_47 : Cond.methodLink RX6 47 yX6_firstLarge ∈ vT := vT_in (vt_r2 (List.mem_of_getElem? (i := 174) rfl)) rfl
theorem k_instanceMethod_X6_firstLarge : Cond.instanceMethod yX6_firstLarge ∈ vT := vT_in (vt_r2 (List.mem_of_getElem? (i := 176) rfl)) rfl
theorem k_code_X6_firstLarge : Cond.code yX6_firstLarge cX6_firstLarge 3 (some .int) ∈ vT := vT_in (vt_r2 (List.mem_of_getElem? (i := 177) rfl)) rfl
theorem k_m_SampleDeskLaw_92 : Cond.methodLink RL 92 yL_alias ∈ vT := vT_in (vt_r2 (List.mem_of_getElem? (i := 178) rfl)) rfl
theorem k_static_L_alias : Cond.static yL_alias ∈ vT := vT_in (vt_r2 (List.mem_of_getElem? (i := 179) rfl)) rfl
theorem k_codeWith_L_alias : Cond.codeWith yL_alias cL_alias 6 (some .int) [(0, 11, 14, 19), (0, 11, 18, 13)] ∈ vT := vT_in (vt_r2 (List.mem_of_getElem? (i := 180) rfl)) rfl
theorem k_m_SampleDeskLaw_35 : Cond.methodLink RL 35 yX8_alias ∈ vT := vT_in (vt_r2 (List.mem_of_getElem? (i := 181) rfl)) rfl
theorem k_instanceMethod_X8_alias : Cond.instanceMethod yX8_alias ∈ vT := vT_in (vt_r2 (List.mem_of_getElem? (i := 182) rfl)) rfl
theorem k_selects_X8_alias : Cond.selects RX8 yX8_alias yX8_alias ∈ vT := vT_in (vt_r2 (List.mem_of_getElem? (i := 183) rfl)) rfl
theorem k_code_X8_alias : Cond.code yX8_alias cX8_alias 4 (some .long) ∈ vT := vT_in (vt_r2 (List.mem_of_getElem? (i := 184) rfl)) rfl
theorem k_m_SampleDeskLaw_95 : Cond.methodLink RL 95 yL_draw ∈ vT := vT_in (vt_r2 (List.mem_of_getElem? (i := 185) rfl)) rfl
theorem k_static_L_draw : Cond.static yL_draw ∈ vT := vT_in (vt_r2 (List.mem_of_getElem? (i := 186) rfl)) rfl
theorem k_codeWith_L_draw : Cond.codeWith yL_draw cL_draw 7 (some .int) [(0, 13, 16, 21), (0, 13, 20, 13), (0, 13, 24, 43)] ∈ vT := vT_in (vt_r2 (List.mem_of_getElem? (i := 187) rfl)) rfl
theorem k_cl_SampleDeskLaw_43 : Cond.classLink RL 43 "java/util/NoSuchElementException" ∈ vT := vT_in (vt_r2 (List.mem_of_getElem? (i := 188) rfl)) rfl
theorem k_m_SampleDeskLaw_39 : Cond.methodLink RL 39 yX8_draw ∈ vT := vT_in (vt_r2 (List.mem_of_getElem? (i := 189) rfl)) rfl
theorem k_instanceMethod_X8_draw : Cond.instanceMethod yX8_draw ∈ vT := vT_in (vt_r2 (List.mem_of_getElem? (i := 190) rfl)) rfl
theorem k_selects_X8_draw : Cond.selects RX8 yX8_draw yX8_draw ∈ vT := vT_in (vt_r2 (List.mem_of_getElem? (i := 191) rfl)) rfl
theorem k_code_X8_draw : Cond.code yX8_draw cX8_draw 7 (some .long) ∈ vT := vT_in (vt_r2 (List.mem_of_getElem? (i := 192) rfl)) rfl
theorem k_m_SampleDesk_125 : Cond.methodLink RX8 125 yX3_set ∈ vT := vT_in (vt_r2 (List.mem_of_getElem? (i := 193) rfl)) rfl
theorem k_instanceMethod_X3_set : Cond.instanceMethod yX3_set ∈ vT := vT_in (vt_r2 (List.mem_of_getElem? (i := 194) rfl)) rfl
theorem k_selects_X3_set : Cond.selects RX3 yX3_set yX3_set ∈ vT := vT_in (vt_r2 (List.mem_of_getElem? (i := 195) rfl)) rfl
theorem k_code_X3_set : Cond.code yX3_set cX3_set 5 (none : Option FieldType) ∈ vT := vT_in (vt_r2 (List.mem_of_getElem? (i := 196) rfl)) rfl
theorem k_m_SampleDesk_129 : Cond.methodLink RX8 129 yX3_isAllowed ∈ vT := vT_in (vt_r2 (List.mem_of_getElem? (i := 197) rfl)) rfl
theorem k_instanceMethod_X3_isAllowed : Cond.instanceMethod yX3_isAllowed ∈ vT := vT_in (vt_r2 (List.mem_of_getElem? (i := 198) rfl)) rfl
theorem k_selects_X3_isAllowed : Cond.selects RX3 yX3_isAllowed yX3_isAllowed ∈ vT := vT_in (vt_r2 (List.mem_of_getElem? (i := 199) rfl)) rfl
theorem k_code_X3_isAllowed : Cond.code yX3_isAllowed cX3_isAllowed 1 (some .boolean) ∈ vT := vT_in (vt_r2 (List.mem_of_getElem? (i := 200) rfl)) rfl
theorem k_m_Order_24 : Cond.methodLink RX3 24 yX3_isUpTo ∈ vT := vT_in (vt_r2 (List.mem_of_getElem? (i := 201) rfl)) rfl
theorem k_static_X3_isUpTo : Cond.static yX3_isUpTo ∈ vT := vT_in (vt_r2 (List.mem_of_getElem? (i := 202) rfl)) rfl
theorem k_code_X3_isUpTo : Cond.code yX3_isUpTo cX3_isUpTo 2 (some .boolean) ∈ vT := vT_in (vt_r2 (List.mem_of_getElem? (i := 203) rfl)) rfl
theorem k_m_Order_28 : Cond.methodLink RX3 28 yX3_width ∈ vT := vT_in (vt_r2 (List.mem_of_getElem? (i := 204) rfl)) rfl
theorem k_instanceMethod_X3_width : Cond.instanceMethod yX3_width ∈ vT := vT_in (vt_r2 (List.mem_of_getElem? (i := 205) rfl)) rfl
theorem k_selects_X3_width : Cond.selects RX3 yX3_width yX3_width ∈ vT := vT_in (vt_r2 (List.mem_of_getElem? (i := 206) rfl)) rfl
theorem k_code_X3_width : Cond.code yX3_width cX3_width 1 (some .long) ∈ vT := vT_in (vt_r2 (List.mem_of_getElem? (i := 207) rfl)) rfl
theorem k_c_Order_41 : Cond.constantLong RX3 41 2147483648 ∈ vT := vT_in (vt_r2 (List.mem_of_getElem? (i := 208) rfl)) rfl
theorem k_m_Order_32 : Cond.methodLink RX3 32 yX3_isRatio ∈ vT := vT_in (vt_r2 (List.mem_of_getElem? (i := 209) rfl)) rfl
theorem k_static_X3_isRatio : Cond.static yX3_isRatio ∈ vT := vT_in (vt_r2 (List.mem_of_getElem? (i := 210) rfl)) rfl
theorem k_code_X3_isRatio : Cond.code yX3_isRatio cX3_isRatio 4 (some .boolean) ∈ vT := vT_in (vt_r2 (List.mem_of_getElem? (i := 211) rfl)) rfl
theorem k_c_Order_36 : Cond.constant RX3 36 100000 ∈ vT := vT_in (vt_r2 (List.mem_of_getElem? (i := 212) rfl)) rfl
theorem k_c_Order_37 : Cond.constantLong RX3 37 64 ∈ vT := vT_in (vt_r2 (List.mem_of_getElem? (i := 213) rfl)) rfl
theorem k_c_Order_39 : Cond.constantLong RX3 39 1000 ∈ vT := vT_in (vt_r2 (List.mem_of_getElem? (i := 214) rfl)) rfl
theorem k_m_SampleDesk_133 : Cond.methodLink RX8 133 yX5_isReadyFor ∈ vT := vT_in (vt_r2 (List.mem_of_getElem? (i := 215) rfl)) rfl
theorem k_instanceMethod_X5_isReadyFor : Cond.instanceMethod yX5_isReadyFor ∈ vT := vT_in (vt_r2 (List.mem_of_getElem? (i := 216) rfl)) rfl
theorem k_selects_X5_isReadyFor : Cond.selects RX5 yX5_isReadyFor yX5_isReadyFor ∈ vT := vT_in (vt_r2 (List.mem_of_getElem? (i := 217) rfl)) rfl
theorem k_code_X5_isReadyFor : Cond.code yX5_isReadyFor cX5_isReadyFor 2 (some .boolean) ∈ vT := vT_in (vt_r2 (List.mem_of_getElem? (i := 218) rfl)) rfl
theorem k_m_SampleDesk_144 : Cond.methodLink RX8 144 yX0_open ∈ vT := vT_in (vt_r2 (List.mem_of_getElem? (i := 219) rfl)) rfl
theorem k_instanceMethod_X0_open : Cond.instanceMethod yX0_open ∈ vT := vT_in (vt_r2 (List.mem_of_getElem? (i := 220) rfl)) rfl
theorem k_selects_X0_open : Cond.selects RX0 yX0_open yX0_open ∈ vT := vT_in (vt_r2 (List.mem_of_getElem? (i := 221) rfl)) rfl
theorem k_code_X0_open : Cond.code yX0_open cX0_open 4 (none : Option FieldType) ∈ vT := vT_in (vt_r2 (List.mem_of_getElem? (i := 222) rfl)) rfl
theorem k_m_Dice_22 : Cond.methodLink RX0 22 yJ9_min_7cf53 ∈ vT := vT_in (vt_r2 (List.mem_of_getElem? (i := 223) rfl)) rfl
theorem k_static_J9_min_7cf53 : Cond.static yJ9_min_7cf53 ∈ vT := vT_in (vt_r2 (List.mem_of_getElem? (i := 224) rfl)) rfl
theorem k_code_J9_min_7cf53 : Cond.code yJ9_min_7cf53 cJ9_min_7cf53 2 (some .int) ∈ vT := vT_in (vt_r2 (List.mem_of_getElem? (i := 225) rfl)) rfl
theorem k_m_SampleDesk_148 : Cond.methodLink RX8 148 yX5_answer ∈ vT := vT_in (vt_r2 (List.mem_of_getElem? (i := 226) rfl)) rfl
theorem k_instanceMethod_X5_answer : Cond.instanceMethod yX5_answer ∈ vT := vT_in (vt_r2 (List.mem_of_getElem? (i := 227) rfl)) rfl
theorem k_selects_X5_answer : Cond.selects RX5 yX5_answer yX5_answer ∈ vT := vT_in (vt_r2 (List.mem_of_getElem? (i := 228) rfl)) rfl
theorem k_code_X5_answer : Cond.code yX5_answer cX5_answer 2 (some .long) ∈ vT := vT_in (vt_r2 (List.mem_of_getElem? (i := 229) rfl)) rfl
theorem k_m_Sampler_46 : Cond.methodLink RX5 46 yX6_pick ∈ vT := vT_in (vt_r2 (List.mem_of_getElem? (i := 230) rfl)) rfl
theorem k_instanceMethod_X6_pick : Cond.instanceMethod yX6_pick ∈ vT := vT_in (vt_r2 (List.mem_of_getElem? (i := 231) rfl)) rfl
theorem k_selects_X6_pick : Cond.selects RX6 yX6_pick yX6_pick ∈ vT := vT_in (vt_r2 (List.mem_of_getElem? (i := 232) rfl)) rfl
theorem k_code_X6_pick : Cond.code yX6_pick cX6_pick 2 (some .int) ∈ vT := vT_in (vt_r2 (List.mem_of_getElem? (i := 233) rfl)) rfl
theorem k_m_Table_51 : Cond.methodLink RX6 51 yX6_pickByTree ∈ vT := vT_in (vt_r2 (List.mem_of_getElem? (i := 234) rfl)) rfl
theorem k_instanceMethod_X6_pickByTree : Cond.instanceMethod yX6_pickByTree ∈ vT := vT_in (vt_r2 (List.mem_of_getElem? (i := 236) rfl)) rfl
theorem k_code_X6_pickByTree : Cond.code yX6_pickByTree cX6_pickByTree 5 (some .int) ∈ vT := vT_in (vt_r2 (List.mem_of_getElem? (i := 237) rfl)) rfl
theorem k_c_Table_68 : Cond.constant RX6 68 1000000 ∈ vT := vT_in (vt_r2 (List.mem_of_getElem? (i := 238) rfl)) rfl
theorem k_m_Table_73 : Cond.methodLink RX6 73 yX0_nextBit ∈ vT := vT_in (vt_r2 (List.mem_of_getElem? (i := 239) rfl)) rfl
theorem k_instanceMethod_X0_nextBit : Cond.instanceMethod yX0_nextBit ∈ vT := vT_in (vt_r3 (List.mem_of_getElem? (i := 0) rfl)) rfl
theorem k_selects_X0_nextBit : Cond.selects RX0 yX0_nextBit yX0_nextBit ∈ vT := vT_in (vt_r3 (List.mem_of_getElem? (i := 1) rfl)) rfl
theorem k_code_X0_nextBit : Cond.code yX0_nextBit cX0_nextBit 2 (some .int) ∈ vT := vT_in (vt_r3 (List.mem_of_getElem? (i := 2) rfl)) rfl
theorem k_m_Table_55 : Cond.methodLink RX6 55 yX6_pickByAlias ∈ vT := vT_in (vt_r3 (List.mem_of_getElem? (i := 3) rfl)) rfl
theorem k_instanceMethod_X6_pickByAlias : Cond.instanceMethod yX6_pickByAlias ∈ vT := vT_in (vt_r3 (List.mem_of_getElem? (i := 5) rfl)) rfl
theorem k_code_X6_pickByAlias : Cond.code yX6_pickByAlias cX6_pickByAlias 3 (some .int) ∈ vT := vT_in (vt_r3 (List.mem_of_getElem? (i := 6) rfl)) rfl
theorem k_m_Table_58 : Cond.methodLink RX6 58 yX0_uniform ∈ vT := vT_in (vt_r3 (List.mem_of_getElem? (i := 7) rfl)) rfl
theorem k_instanceMethod_X0_uniform : Cond.instanceMethod yX0_uniform ∈ vT := vT_in (vt_r3 (List.mem_of_getElem? (i := 8) rfl)) rfl
theorem k_selects_X0_uniform : Cond.selects RX0 yX0_uniform yX0_uniform ∈ vT := vT_in (vt_r3 (List.mem_of_getElem? (i := 9) rfl)) rfl
theorem k_code_X0_uniform : Cond.code yX0_uniform cX0_uniform 8 (some .long) ∈ vT := vT_in (vt_r3 (List.mem_of_getElem? (i := 10) rfl)) rfl
theorem k_c_Dice_35 : Cond.constant RX0 35 1000000 ∈ vT := vT_in (vt_r3 (List.mem_of_getElem? (i := 11) rfl)) rfl
theorem k_m_Dice_36 : Cond.methodLink RX0 36 yX0_nextBit ∈ vT := vT_in (vt_r3 (List.mem_of_getElem? (i := 12) rfl)) rfl
theorem k_m_Table_64 : Cond.methodLink RX6 64 yX0_coin ∈ vT := vT_in (vt_r3 (List.mem_of_getElem? (i := 13) rfl)) rfl
theorem k_instanceMethod_X0_coin : Cond.instanceMethod yX0_coin ∈ vT := vT_in (vt_r3 (List.mem_of_getElem? (i := 14) rfl)) rfl
theorem k_selects_X0_coin : Cond.selects RX0 yX0_coin yX0_coin ∈ vT := vT_in (vt_r3 (List.mem_of_getElem? (i := 15) rfl)) rfl
theorem k_code_X0_coin : Cond.code yX0_coin cX0_coin 10 (some .int) ∈ vT := vT_in (vt_r3 (List.mem_of_getElem? (i := 16) rfl)) rfl
theorem k_m_Sampler_50 : Cond.methodLink RX5 50 yX3_width ∈ vT := vT_in (vt_r3 (List.mem_of_getElem? (i := 17) rfl)) rfl
theorem k_m_Sampler_54 : Cond.methodLink RX5 54 yX0_uniform ∈ vT := vT_in (vt_r3 (List.mem_of_getElem? (i := 18) rfl)) rfl
theorem k_m_Sampler_63 : Cond.methodLink RX5 63 yX0_coin ∈ vT := vT_in (vt_r3 (List.mem_of_getElem? (i := 19) rfl)) rfl
theorem k_m_Sampler_70 : Cond.methodLink RX5 70 yX1_binomial ∈ vT := vT_in (vt_r3 (List.mem_of_getElem? (i := 20) rfl)) rfl
theorem k_instanceMethod_X1_binomial : Cond.instanceMethod yX1_binomial ∈ vT := vT_in (vt_r3 (List.mem_of_getElem? (i := 21) rfl)) rfl
theorem k_selects_X1_binomial : Cond.selects RX1 yX1_binomial yX1_binomial ∈ vT := vT_in (vt_r3 (List.mem_of_getElem? (i := 22) rfl)) rfl
theorem k_code_X1_binomial : Cond.code yX1_binomial cX1_binomial 6 (some .int) ∈ vT := vT_in (vt_r3 (List.mem_of_getElem? (i := 23) rfl)) rfl
theorem k_m_Laws_21 : Cond.methodLink RX1 21 yX0_coin ∈ vT := vT_in (vt_r3 (List.mem_of_getElem? (i := 24) rfl)) rfl
theorem k_m_Sampler_76 : Cond.methodLink RX5 76 yX1_geometric ∈ vT := vT_in (vt_r3 (List.mem_of_getElem? (i := 25) rfl)) rfl
theorem k_instanceMethod_X1_geometric : Cond.instanceMethod yX1_geometric ∈ vT := vT_in (vt_r3 (List.mem_of_getElem? (i := 26) rfl)) rfl
theorem k_selects_X1_geometric : Cond.selects RX1 yX1_geometric yX1_geometric ∈ vT := vT_in (vt_r3 (List.mem_of_getElem? (i := 27) rfl)) rfl
theorem k_code_X1_geometric : Cond.code yX1_geometric cX1_geometric 5 (some .int) ∈ vT := vT_in (vt_r3 (List.mem_of_getElem? (i := 28) rfl)) rfl
theorem k_m_Sampler_79 : Cond.methodLink RX5 79 yX1_poisson ∈ vT := vT_in (vt_r3 (List.mem_of_getElem? (i := 29) rfl)) rfl
theorem k_instanceMethod_X1_poisson : Cond.instanceMethod yX1_poisson ∈ vT := vT_in (vt_r3 (List.mem_of_getElem? (i := 30) rfl)) rfl
theorem k_selects_X1_poisson : Cond.selects RX1 yX1_poisson yX1_poisson ∈ vT := vT_in (vt_r3 (List.mem_of_getElem? (i := 31) rfl)) rfl
theorem k_code_X1_poisson : Cond.code yX1_poisson cX1_poisson 9 (some .long) ∈ vT := vT_in (vt_r3 (List.mem_of_getElem? (i := 32) rfl)) rfl
theorem k_c_Laws_25 : Cond.constantLong RX1 25 2 ∈ vT := vT_in (vt_r3 (List.mem_of_getElem? (i := 33) rfl)) rfl
theorem k_m_Laws_27 : Cond.methodLink RX1 27 yX1_poissonPart ∈ vT := vT_in (vt_r3 (List.mem_of_getElem? (i := 34) rfl)) rfl
theorem k_instanceMethod_X1_poissonPart : Cond.instanceMethod yX1_poissonPart ∈ vT := vT_in (vt_r3 (List.mem_of_getElem? (i := 36) rfl)) rfl
theorem k_code_X1_poissonPart : Cond.code yX1_poissonPart cX1_poissonPart 7 (some .int) ∈ vT := vT_in (vt_r3 (List.mem_of_getElem? (i := 37) rfl)) rfl
theorem k_c_Laws_30 : Cond.constant RX1 30 1000000 ∈ vT := vT_in (vt_r3 (List.mem_of_getElem? (i := 38) rfl)) rfl
theorem k_m_Laws_31 : Cond.methodLink RX1 31 yX0_coinsInARow ∈ vT := vT_in (vt_r3 (List.mem_of_getElem? (i := 39) rfl)) rfl
theorem k_instanceMethod_X0_coinsInARow : Cond.instanceMethod yX0_coinsInARow ∈ vT := vT_in (vt_r3 (List.mem_of_getElem? (i := 40) rfl)) rfl
theorem k_selects_X0_coinsInARow : Cond.selects RX0 yX0_coinsInARow yX0_coinsInARow ∈ vT := vT_in (vt_r3 (List.mem_of_getElem? (i := 41) rfl)) rfl
theorem k_code_X0_coinsInARow : Cond.code yX0_coinsInARow cX0_coinsInARow 6 (some .int) ∈ vT := vT_in (vt_r3 (List.mem_of_getElem? (i := 42) rfl)) rfl
theorem k_m_Dice_40 : Cond.methodLink RX0 40 yX0_coin ∈ vT := vT_in (vt_r3 (List.mem_of_getElem? (i := 43) rfl)) rfl
theorem k_m_Laws_34 : Cond.methodLink RX1 34 yX1_areZero ∈ vT := vT_in (vt_r3 (List.mem_of_getElem? (i := 44) rfl)) rfl
theorem k_instanceMethod_X1_areZero : Cond.instanceMethod yX1_areZero ∈ vT := vT_in (vt_r3 (List.mem_of_getElem? (i := 46) rfl)) rfl
theorem k_code_X1_areZero : Cond.code yX1_areZero cX1_areZero 3 (some .boolean) ∈ vT := vT_in (vt_r3 (List.mem_of_getElem? (i := 47) rfl)) rfl
theorem k_m_Laws_38 : Cond.methodLink RX1 38 yX0_uniform ∈ vT := vT_in (vt_r3 (List.mem_of_getElem? (i := 48) rfl)) rfl
theorem k_m_Sampler_83 : Cond.methodLink RX5 83 yX1_hyper ∈ vT := vT_in (vt_r3 (List.mem_of_getElem? (i := 49) rfl)) rfl
theorem k_instanceMethod_X1_hyper : Cond.instanceMethod yX1_hyper ∈ vT := vT_in (vt_r3 (List.mem_of_getElem? (i := 50) rfl)) rfl
theorem k_selects_X1_hyper : Cond.selects RX1 yX1_hyper yX1_hyper ∈ vT := vT_in (vt_r3 (List.mem_of_getElem? (i := 51) rfl)) rfl
theorem k_code_X1_hyper : Cond.code yX1_hyper cX1_hyper 8 (some .int) ∈ vT := vT_in (vt_r3 (List.mem_of_getElem? (i := 52) rfl)) rfl
theorem k_m_Sampler_86 : Cond.methodLink RX5 86 yX1_bell ∈ vT := vT_in (vt_r3 (List.mem_of_getElem? (i := 53) rfl)) rfl
theorem k_instanceMethod_X1_bell : Cond.instanceMethod yX1_bell ∈ vT := vT_in (vt_r3 (List.mem_of_getElem? (i := 54) rfl)) rfl
theorem k_selects_X1_bell : Cond.selects RX1 yX1_bell yX1_bell ∈ vT := vT_in (vt_r3 (List.mem_of_getElem? (i := 55) rfl)) rfl
theorem k_code_X1_bell : Cond.code yX1_bell cX1_bell 15 (some .long) ∈ vT := vT_in (vt_r3 (List.mem_of_getElem? (i := 56) rfl)) rfl
theorem k_c_Laws_42 : Cond.constantLong RX1 42 1000000 ∈ vT := vT_in (vt_r3 (List.mem_of_getElem? (i := 57) rfl)) rfl
theorem k_m_Laws_44 : Cond.methodLink RX1 44 yX0_exponentialCoin ∈ vT := vT_in (vt_r3 (List.mem_of_getElem? (i := 58) rfl)) rfl
theorem k_instanceMethod_X0_exponentialCoin : Cond.instanceMethod yX0_exponentialCoin ∈ vT := vT_in (vt_r3 (List.mem_of_getElem? (i := 59) rfl)) rfl
theorem k_selects_X0_exponentialCoin : Cond.selects RX0 yX0_exponentialCoin yX0_exponentialCoin ∈ vT := vT_in (vt_r3 (List.mem_of_getElem? (i := 60) rfl)) rfl
theorem k_code_X0_exponentialCoin : Cond.code yX0_exponentialCoin cX0_exponentialCoin 8 (some .int) ∈ vT := vT_in (vt_r3 (List.mem_of_getElem? (i := 61) rfl)) rfl
theorem k_m_Dice_44 : Cond.methodLink RX0 44 yX0_unitExponentialCoin ∈ vT := vT_in (vt_r3 (List.mem_of_getElem? (i := 62) rfl)) rfl
theorem k_instanceMethod_X0_unitExponentialCoin : Cond.instanceMethod yX0_unitExponentialCoin ∈ vT := vT_in (vt_r3 (List.mem_of_getElem? (i := 63) rfl)) rfl
theorem k_selects_X0_unitExponentialCoin : Cond.selects RX0 yX0_unitExponentialCoin yX0_unitExponentialCoin ∈ vT := vT_in (vt_r3 (List.mem_of_getElem? (i := 64) rfl)) rfl
theorem k_code_X0_unitExponentialCoin : Cond.code yX0_unitExponentialCoin cX0_unitExponentialCoin 6 (some .int) ∈ vT := vT_in (vt_r3 (List.mem_of_getElem? (i := 65) rfl)) rfl
theorem k_m_Laws_47 : Cond.methodLink RX1 47 yX1_exponentialCoinsInARow ∈ vT := vT_in (vt_r3 (List.mem_of_getElem? (i := 66) rfl)) rfl
theorem k_instanceMethod_X1_exponentialCoinsInARow : Cond.instanceMethod yX1_exponentialCoinsInARow ∈ vT := vT_in (vt_r3 (List.mem_of_getElem? (i := 68) rfl)) rfl
theorem k_code_X1_exponentialCoinsInARow : Cond.code yX1_exponentialCoinsInARow cX1_exponentialCoinsInARow 2 (some .int) ∈ vT := vT_in (vt_r3 (List.mem_of_getElem? (i := 69) rfl)) rfl
theorem k_m_Laws_54 : Cond.methodLink RX1 54 yX0_unitExponentialCoin ∈ vT := vT_in (vt_r3 (List.mem_of_getElem? (i := 70) rfl)) rfl
theorem k_m_Laws_51 : Cond.methodLink RX1 51 yX0_nextBit ∈ vT := vT_in (vt_r3 (List.mem_of_getElem? (i := 71) rfl)) rfl
theorem k_m_Sampler_90 : Cond.methodLink RX5 90 yX0_exponentialCoin ∈ vT := vT_in (vt_r3 (List.mem_of_getElem? (i := 72) rfl)) rfl
theorem k_m_Sampler_93 : Cond.methodLink RX5 93 yX4_shuffle ∈ vT := vT_in (vt_r3 (List.mem_of_getElem? (i := 73) rfl)) rfl
theorem k_instanceMethod_X4_shuffle : Cond.instanceMethod yX4_shuffle ∈ vT := vT_in (vt_r3 (List.mem_of_getElem? (i := 74) rfl)) rfl
theorem k_selects_X4_shuffle : Cond.selects RX4 yX4_shuffle yX4_shuffle ∈ vT := vT_in (vt_r3 (List.mem_of_getElem? (i := 75) rfl)) rfl
theorem k_code_X4_shuffle : Cond.code yX4_shuffle cX4_shuffle 5 (some .int) ∈ vT := vT_in (vt_r3 (List.mem_of_getElem? (i := 76) rfl)) rfl
theorem k_m_Rows_40 : Cond.methodLink RX4 40 yX0_uniform ∈ vT := vT_in (vt_r3 (List.mem_of_getElem? (i := 77) rfl)) rfl
theorem k_m_Sampler_97 : Cond.methodLink RX5 97 yX4_subset ∈ vT := vT_in (vt_r3 (List.mem_of_getElem? (i := 78) rfl)) rfl
theorem k_instanceMethod_X4_subset : Cond.instanceMethod yX4_subset ∈ vT := vT_in (vt_r3 (List.mem_of_getElem? (i := 79) rfl)) rfl
theorem k_selects_X4_subset : Cond.selects RX4 yX4_subset yX4_subset ∈ vT := vT_in (vt_r3 (List.mem_of_getElem? (i := 80) rfl)) rfl
theorem k_code_X4_subset : Cond.code yX4_subset cX4_subset 4 (some .int) ∈ vT := vT_in (vt_r3 (List.mem_of_getElem? (i := 81) rfl)) rfl
theorem k_m_Rows_48 : Cond.methodLink RX4 48 yX0_coin ∈ vT := vT_in (vt_r3 (List.mem_of_getElem? (i := 82) rfl)) rfl
theorem k_m_Sampler_101 : Cond.methodLink RX5 101 yX4_path ∈ vT := vT_in (vt_r3 (List.mem_of_getElem? (i := 83) rfl)) rfl
theorem k_instanceMethod_X4_path : Cond.instanceMethod yX4_path ∈ vT := vT_in (vt_r3 (List.mem_of_getElem? (i := 84) rfl)) rfl
theorem k_selects_X4_path : Cond.selects RX4 yX4_path yX4_path ∈ vT := vT_in (vt_r3 (List.mem_of_getElem? (i := 85) rfl)) rfl
theorem k_code_X4_path : Cond.code yX4_path cX4_path 2 (some .int) ∈ vT := vT_in (vt_r3 (List.mem_of_getElem? (i := 86) rfl)) rfl
theorem k_m_Rows_52 : Cond.methodLink RX4 52 yX4_walk ∈ vT := vT_in (vt_r3 (List.mem_of_getElem? (i := 87) rfl)) rfl
theorem k_instanceMethod_X4_walk : Cond.instanceMethod yX4_walk ∈ vT := vT_in (vt_r3 (List.mem_of_getElem? (i := 89) rfl)) rfl
theorem k_code_X4_walk : Cond.code yX4_walk cX4_walk 5 (none : Option FieldType) ∈ vT := vT_in (vt_r3 (List.mem_of_getElem? (i := 90) rfl)) rfl
theorem k_m_Rows_56 : Cond.methodLink RX4 56 ⟨"java/lang/System", "arraycopy", "(Ljava/lang/Object;ILjava/lang/Object;II)V"⟩ ∈ vT := vT_in (vt_r3 (List.mem_of_getElem? (i := 91) rfl)) rfl
theorem k_static_572 : Cond.static ⟨"java/lang/System", "arraycopy", "(Ljava/lang/Object;ILjava/lang/Object;II)V"⟩ ∈ vT := vT_in (vt_r3 (List.mem_of_getElem? (i := 92) rfl)) rfl
theorem k_native_573 : Cond.native ⟨"java/lang/System", "arraycopy", "(Ljava/lang/Object;ILjava/lang/Object;II)V"⟩ ∈ vT := vT_in (vt_r3 (List.mem_of_getElem? (i := 93) rfl)) rfl
theorem k_m_Sampler_104 : Cond.methodLink RX5 104 yX4_tree ∈ vT := vT_in (vt_r3 (List.mem_of_getElem? (i := 94) rfl)) rfl
theorem k_instanceMethod_X4_tree : Cond.instanceMethod yX4_tree ∈ vT := vT_in (vt_r3 (List.mem_of_getElem? (i := 95) rfl)) rfl
theorem k_selects_X4_tree : Cond.selects RX4 yX4_tree yX4_tree ∈ vT := vT_in (vt_r3 (List.mem_of_getElem? (i := 96) rfl)) rfl
theorem k_code_X4_tree : Cond.code yX4_tree cX4_tree 6 (some .int) ∈ vT := vT_in (vt_r3 (List.mem_of_getElem? (i := 97) rfl)) rfl
theorem k_m_Sampler_107 : Cond.methodLink RX5 107 yX4_stratum ∈ vT := vT_in (vt_r3 (List.mem_of_getElem? (i := 98) rfl)) rfl
theorem k_instanceMethod_X4_stratum : Cond.instanceMethod yX4_stratum ∈ vT := vT_in (vt_r3 (List.mem_of_getElem? (i := 99) rfl)) rfl
theorem k_selects_X4_stratum : Cond.selects RX4 yX4_stratum yX4_stratum ∈ vT := vT_in (vt_r3 (List.mem_of_getElem? (i := 100) rfl)) rfl
theorem k_code_X4_stratum : Cond.code yX4_stratum cX4_stratum 4 (some .int) ∈ vT := vT_in (vt_r3 (List.mem_of_getElem? (i := 101) rfl)) rfl
theorem k_m_Rows_44 : Cond.methodLink RX4 44 yX4_shuffle ∈ vT := vT_in (vt_r3 (List.mem_of_getElem? (i := 102) rfl)) rfl
theorem k_cl_SampleDesk_156 : Cond.classLink RX8 156 "java/util/NoSuchElementException" ∈ vT := vT_in (vt_r3 (List.mem_of_getElem? (i := 103) rfl)) rfl
theorem k_inst_java_util_NoSuchElementException : Cond.instantiable "java/util/NoSuchElementException" 6 ∈ vT := vT_in (vt_r3 (List.mem_of_getElem? (i := 104) rfl)) rfl
theorem k_selects_586 : Cond.selects "java/util/NoSuchElementException" ⟨"java/lang/Throwable", "fillInStackTrace", "(I)Ljava/lang/Throwable;"⟩ ⟨"java/lang/Throwable", "fillInStackTrace", "(I)Ljava/lang/Throwable;"⟩ ∈ vT := vT_in (vt_r3 (List.mem_of_getElem? (i := 106) rfl)) rfl
theorem k_m_SampleDesk_158 : Cond.methodLink RX8 158 ⟨"java/util/NoSuchElementException", "<init>", "()V"⟩ ∈ vT := vT_in (vt_r3 (List.mem_of_getElem? (i := 112) rfl)) rfl
theorem k_instanceMethod_593 : Cond.instanceMethod ⟨"java/util/NoSuchElementException", "<init>", "()V"⟩ ∈ vT := vT_in (vt_r3 (List.mem_of_getElem? (i := 113) rfl)) rfl
theorem k_m_java_util_NoSuchElementException_1 : Cond.methodLink "java/util/NoSuchElementException" 1 ⟨"java/lang/RuntimeException", "<init>", "()V"⟩ ∈ vT := vT_in (vt_r3 (List.mem_of_getElem? (i := 115) rfl)) rfl
theorem k_m_SampleDesk_159 : Cond.methodLink RX8 159 yX8_keep ∈ vT := vT_in (vt_r3 (List.mem_of_getElem? (i := 118) rfl)) rfl
theorem k_instanceMethod_X8_keep : Cond.instanceMethod yX8_keep ∈ vT := vT_in (vt_r3 (List.mem_of_getElem? (i := 120) rfl)) rfl
theorem k_code_X8_keep : Cond.code yX8_keep cX8_keep 3 (none : Option FieldType) ∈ vT := vT_in (vt_r3 (List.mem_of_getElem? (i := 121) rfl)) rfl
theorem k_m_SampleDesk_175 : Cond.methodLink RX8 175 yX0_bitsRead ∈ vT := vT_in (vt_r3 (List.mem_of_getElem? (i := 122) rfl)) rfl
theorem k_instanceMethod_X0_bitsRead : Cond.instanceMethod yX0_bitsRead ∈ vT := vT_in (vt_r3 (List.mem_of_getElem? (i := 123) rfl)) rfl
theorem k_selects_X0_bitsRead : Cond.selects RX0 yX0_bitsRead yX0_bitsRead ∈ vT := vT_in (vt_r3 (List.mem_of_getElem? (i := 124) rfl)) rfl
theorem k_code_X0_bitsRead : Cond.code yX0_bitsRead cX0_bitsRead 1 (some .int) ∈ vT := vT_in (vt_r3 (List.mem_of_getElem? (i := 125) rfl)) rfl
theorem k_m_SampleDesk_183 : Cond.methodLink RX8 183 yX4_checkSum ∈ vT := vT_in (vt_r3 (List.mem_of_getElem? (i := 126) rfl)) rfl
theorem k_instanceMethod_X4_checkSum : Cond.instanceMethod yX4_checkSum ∈ vT := vT_in (vt_r3 (List.mem_of_getElem? (i := 127) rfl)) rfl
theorem k_selects_X4_checkSum : Cond.selects RX4 yX4_checkSum yX4_checkSum ∈ vT := vT_in (vt_r3 (List.mem_of_getElem? (i := 128) rfl)) rfl
theorem k_code_X4_checkSum : Cond.code yX4_checkSum cX4_checkSum 4 (some .long) ∈ vT := vT_in (vt_r3 (List.mem_of_getElem? (i := 129) rfl)) rfl
theorem k_c_Rows_32 : Cond.constantLong RX4 32 1000003 ∈ vT := vT_in (vt_r3 (List.mem_of_getElem? (i := 130) rfl)) rfl
theorem k_m_SampleDesk_189 : Cond.methodLink RX8 189 yX2_add ∈ vT := vT_in (vt_r3 (List.mem_of_getElem? (i := 131) rfl)) rfl
theorem k_instanceMethod_X2_add : Cond.instanceMethod yX2_add ∈ vT := vT_in (vt_r3 (List.mem_of_getElem? (i := 132) rfl)) rfl
theorem k_selects_X2_add : Cond.selects RX2 yX2_add yX2_add ∈ vT := vT_in (vt_r3 (List.mem_of_getElem? (i := 133) rfl)) rfl
theorem k_code_X2_add : Cond.code yX2_add cX2_add 9 (none : Option FieldType) ∈ vT := vT_in (vt_r3 (List.mem_of_getElem? (i := 134) rfl)) rfl
theorem k_m_Log_37 : Cond.methodLink RX2 37 yJ9_min_7cf53 ∈ vT := vT_in (vt_r3 (List.mem_of_getElem? (i := 135) rfl)) rfl
theorem k_m_SampleDesk_198 : Cond.methodLink RX8 198 ⟨"java/lang/System", "arraycopy", "(Ljava/lang/Object;ILjava/lang/Object;II)V"⟩ ∈ vT := vT_in (vt_r3 (List.mem_of_getElem? (i := 136) rfl)) rfl
theorem k_m_SampleDeskLaw_98 : Cond.methodLink RL 98 yL_item ∈ vT := vT_in (vt_r3 (List.mem_of_getElem? (i := 137) rfl)) rfl
theorem k_static_L_item : Cond.static yL_item ∈ vT := vT_in (vt_r3 (List.mem_of_getElem? (i := 138) rfl)) rfl
theorem k_codeWith_L_item : Cond.codeWith yL_item cL_item 4 (some .int) [(0, 9, 12, 19)] ∈ vT := vT_in (vt_r3 (List.mem_of_getElem? (i := 139) rfl)) rfl
theorem k_m_SampleDeskLaw_45 : Cond.methodLink RL 45 yX8_item ∈ vT := vT_in (vt_r3 (List.mem_of_getElem? (i := 140) rfl)) rfl
theorem k_instanceMethod_X8_item : Cond.instanceMethod yX8_item ∈ vT := vT_in (vt_r3 (List.mem_of_getElem? (i := 141) rfl)) rfl
theorem k_selects_X8_item : Cond.selects RX8 yX8_item yX8_item ∈ vT := vT_in (vt_r3 (List.mem_of_getElem? (i := 142) rfl)) rfl
theorem k_code_X8_item : Cond.code yX8_item cX8_item 2 (some .int) ∈ vT := vT_in (vt_r3 (List.mem_of_getElem? (i := 143) rfl)) rfl
theorem k_m_SampleDeskLaw_101 : Cond.methodLink RL 101 yL_decided ∈ vT := vT_in (vt_r3 (List.mem_of_getElem? (i := 144) rfl)) rfl
theorem k_static_L_decided : Cond.static yL_decided ∈ vT := vT_in (vt_r3 (List.mem_of_getElem? (i := 145) rfl)) rfl
theorem k_codeWith_L_decided : Cond.codeWith yL_decided cL_decided 9 (some .int) [(0, 18, 21, 21), (0, 18, 25, 13)] ∈ vT := vT_in (vt_r3 (List.mem_of_getElem? (i := 146) rfl)) rfl
theorem k_m_SampleDeskLaw_48 : Cond.methodLink RL 48 yX8_decided ∈ vT := vT_in (vt_r3 (List.mem_of_getElem? (i := 147) rfl)) rfl
theorem k_instanceMethod_X8_decided : Cond.instanceMethod yX8_decided ∈ vT := vT_in (vt_r3 (List.mem_of_getElem? (i := 148) rfl)) rfl
theorem k_selects_X8_decided : Cond.selects RX8 yX8_decided yX8_decided ∈ vT := vT_in (vt_r3 (List.mem_of_getElem? (i := 149) rfl)) rfl
theorem k_code_X8_decided : Cond.code yX8_decided cX8_decided 7 (some .int) ∈ vT := vT_in (vt_r3 (List.mem_of_getElem? (i := 150) rfl)) rfl
theorem k_m_SampleDesk_163 : Cond.methodLink RX8 163 yX8_requireCountable ∈ vT := vT_in (vt_r3 (List.mem_of_getElem? (i := 151) rfl)) rfl
theorem k_instanceMethod_X8_requireCountable : Cond.instanceMethod yX8_requireCountable ∈ vT := vT_in (vt_r3 (List.mem_of_getElem? (i := 153) rfl)) rfl
theorem k_code_X8_requireCountable : Cond.code yX8_requireCountable cX8_requireCountable 2 (none : Option FieldType) ∈ vT := vT_in (vt_r3 (List.mem_of_getElem? (i := 154) rfl)) rfl
theorem k_m_SampleDesk_166 : Cond.methodLink RX8 166 yX8_tally ∈ vT := vT_in (vt_r3 (List.mem_of_getElem? (i := 155) rfl)) rfl
theorem k_instanceMethod_X8_tally : Cond.instanceMethod yX8_tally ∈ vT := vT_in (vt_r3 (List.mem_of_getElem? (i := 157) rfl)) rfl
theorem k_code_X8_tally : Cond.code yX8_tally cX8_tally 11 (some .int) ∈ vT := vT_in (vt_r3 (List.mem_of_getElem? (i := 158) rfl)) rfl
theorem k_m_SampleDesk_204 : Cond.methodLink RX8 204 yJ9_max_7cf53 ∈ vT := vT_in (vt_r3 (List.mem_of_getElem? (i := 159) rfl)) rfl
theorem k_static_J9_max_7cf53 : Cond.static yJ9_max_7cf53 ∈ vT := vT_in (vt_r3 (List.mem_of_getElem? (i := 160) rfl)) rfl
theorem k_code_J9_max_7cf53 : Cond.code yJ9_max_7cf53 cJ9_max_7cf53 2 (some .int) ∈ vT := vT_in (vt_r3 (List.mem_of_getElem? (i := 161) rfl)) rfl
theorem k_m_SampleDeskLaw_105 : Cond.methodLink RL 105 yL_undecided ∈ vT := vT_in (vt_r3 (List.mem_of_getElem? (i := 162) rfl)) rfl
theorem k_static_L_undecided : Cond.static yL_undecided ∈ vT := vT_in (vt_r3 (List.mem_of_getElem? (i := 163) rfl)) rfl
theorem k_codeWith_L_undecided : Cond.codeWith yL_undecided cL_undecided 8 (some .int) [(0, 16, 19, 21), (0, 16, 23, 13)] ∈ vT := vT_in (vt_r3 (List.mem_of_getElem? (i := 164) rfl)) rfl
theorem k_m_SampleDeskLaw_52 : Cond.methodLink RL 52 yX8_undecided ∈ vT := vT_in (vt_r3 (List.mem_of_getElem? (i := 165) rfl)) rfl
theorem k_instanceMethod_X8_undecided : Cond.instanceMethod yX8_undecided ∈ vT := vT_in (vt_r3 (List.mem_of_getElem? (i := 166) rfl)) rfl
theorem k_selects_X8_undecided : Cond.selects RX8 yX8_undecided yX8_undecided ∈ vT := vT_in (vt_r3 (List.mem_of_getElem? (i := 167) rfl)) rfl
theorem k_code_X8_undecided : Cond.code yX8_undecided cX8_undecided 6 (some .int) ∈ vT := vT_in (vt_r3 (List.mem_of_getElem? (i := 168) rfl)) rfl
theorem k_m_SampleDeskLaw_109 : Cond.methodLink RL 109 yL_journal ∈ vT := vT_in (vt_r3 (List.mem_of_getElem? (i := 169) rfl)) rfl
theorem k_static_L_journal : Cond.static yL_journal ∈ vT := vT_in (vt_r3 (List.mem_of_getElem? (i := 170) rfl)) rfl
theorem k_codeWith_L_journal : Cond.codeWith yL_journal cL_journal 5 (some .int) [(0, 9, 12, 19)] ∈ vT := vT_in (vt_r3 (List.mem_of_getElem? (i := 171) rfl)) rfl
theorem k_m_SampleDeskLaw_56 : Cond.methodLink RL 56 yX8_journal ∈ vT := vT_in (vt_r3 (List.mem_of_getElem? (i := 172) rfl)) rfl
theorem k_instanceMethod_X8_journal : Cond.instanceMethod yX8_journal ∈ vT := vT_in (vt_r3 (List.mem_of_getElem? (i := 173) rfl)) rfl
theorem k_selects_X8_journal : Cond.selects RX8 yX8_journal yX8_journal ∈ vT := vT_in (vt_r3 (List.mem_of_getElem? (i := 174) rfl)) rfl
theorem k_code_X8_journal : Cond.code yX8_journal cX8_journal 3 (some .long) ∈ vT := vT_in (vt_r3 (List.mem_of_getElem? (i := 175) rfl)) rfl
theorem k_m_SampleDesk_171 : Cond.methodLink RX8 171 yX2_cell ∈ vT := vT_in (vt_r3 (List.mem_of_getElem? (i := 176) rfl)) rfl
theorem k_instanceMethod_X2_cell : Cond.instanceMethod yX2_cell ∈ vT := vT_in (vt_r3 (List.mem_of_getElem? (i := 177) rfl)) rfl
theorem k_selects_X2_cell : Cond.selects RX2 yX2_cell yX2_cell ∈ vT := vT_in (vt_r3 (List.mem_of_getElem? (i := 178) rfl)) rfl
theorem k_code_X2_cell : Cond.code yX2_cell cX2_cell 4 (some .long) ∈ vT := vT_in (vt_r3 (List.mem_of_getElem? (i := 179) rfl)) rfl
theorem k_m_SampleDeskLaw_112 : Cond.methodLink RL 112 yL_replay ∈ vT := vT_in (vt_r3 (List.mem_of_getElem? (i := 180) rfl)) rfl
theorem k_static_L_replay : Cond.static yL_replay ∈ vT := vT_in (vt_r3 (List.mem_of_getElem? (i := 181) rfl)) rfl
theorem k_codeWith_L_replay : Cond.codeWith yL_replay cL_replay 4 (some .int) [(0, 16, 19, 19)] ∈ vT := vT_in (vt_r3 (List.mem_of_getElem? (i := 182) rfl)) rfl
theorem k_m_SampleDeskLaw_59 : Cond.methodLink RL 59 yX8_replay ∈ vT := vT_in (vt_r3 (List.mem_of_getElem? (i := 183) rfl)) rfl
theorem k_instanceMethod_X8_replay : Cond.instanceMethod yX8_replay ∈ vT := vT_in (vt_r3 (List.mem_of_getElem? (i := 184) rfl)) rfl
theorem k_selects_X8_replay : Cond.selects RX8 yX8_replay yX8_replay ∈ vT := vT_in (vt_r3 (List.mem_of_getElem? (i := 185) rfl)) rfl
theorem k_code_X8_replay : Cond.code yX8_replay cX8_replay 4 (some .boolean) ∈ vT := vT_in (vt_r3 (List.mem_of_getElem? (i := 186) rfl)) rfl
theorem k_cl_SampleDeskLaw_64 : Cond.classLink RL 64 RX9 ∈ vT := vT_in (vt_r3 (List.mem_of_getElem? (i := 187) rfl)) rfl
theorem k_inst_SampleDeskModel : Cond.instantiable RX9 26 ∈ vT := vT_in (vt_r3 (List.mem_of_getElem? (i := 188) rfl)) rfl
theorem k_m_SampleDeskLaw_66 : Cond.methodLink RL 66 yX9_init ∈ vT := vT_in (vt_r3 (List.mem_of_getElem? (i := 189) rfl)) rfl
theorem k_instanceMethod_X9_init : Cond.instanceMethod yX9_init ∈ vT := vT_in (vt_r3 (List.mem_of_getElem? (i := 190) rfl)) rfl
theorem k_code_X9_init : Cond.code yX9_init cX9_init 1 (none : Option FieldType) ∈ vT := vT_in (vt_r3 (List.mem_of_getElem? (i := 191) rfl)) rfl
theorem k_m_SampleDeskModel_1 : Cond.methodLink RX9 1 objectInit ∈ vT := vT_in (vt_r3 (List.mem_of_getElem? (i := 192) rfl)) rfl
theorem k_f_SampleDeskModel_47 : Cond.fieldLink RX9 47 "SampleDeskModel" "thrown" "I" ∈ vT := vT_in (vt_r3 (List.mem_of_getElem? (i := 193) rfl)) rfl
theorem k_f_SampleDeskModel_51 : Cond.fieldLink RX9 51 "SampleDeskModel" "fed" "I" ∈ vT := vT_in (vt_r3 (List.mem_of_getElem? (i := 194) rfl)) rfl
theorem k_f_SampleDeskModel_62 : Cond.fieldLink RX9 62 "SampleDeskModel" "place" "I" ∈ vT := vT_in (vt_r3 (List.mem_of_getElem? (i := 195) rfl)) rfl
theorem k_f_SampleDeskModel_218 : Cond.fieldLink RX9 218 "SampleDeskModel" "draws" "I" ∈ vT := vT_in (vt_r3 (List.mem_of_getElem? (i := 196) rfl)) rfl
theorem k_f_SampleDeskModel_215 : Cond.fieldLink RX9 215 "SampleDeskModel" "latest" "I" ∈ vT := vT_in (vt_r3 (List.mem_of_getElem? (i := 197) rfl)) rfl
theorem k_f_SampleDeskModel_7 : Cond.fieldLink RX9 7 "SampleDeskModel" "tape" "[I" ∈ vT := vT_in (vt_r3 (List.mem_of_getElem? (i := 198) rfl)) rfl
theorem k_f_SampleDeskModel_13 : Cond.fieldLink RX9 13 "SampleDeskModel" "weights" "[J" ∈ vT := vT_in (vt_r3 (List.mem_of_getElem? (i := 199) rfl)) rfl
theorem k_f_SampleDeskModel_17 : Cond.fieldLink RX9 17 "SampleDeskModel" "built" "[I" ∈ vT := vT_in (vt_r3 (List.mem_of_getElem? (i := 200) rfl)) rfl
theorem k_f_SampleDeskModel_20 : Cond.fieldLink RX9 20 "SampleDeskModel" "limits" "[J" ∈ vT := vT_in (vt_r3 (List.mem_of_getElem? (i := 201) rfl)) rfl
theorem k_f_SampleDeskModel_23 : Cond.fieldLink RX9 23 "SampleDeskModel" "aliases" "[I" ∈ vT := vT_in (vt_r3 (List.mem_of_getElem? (i := 202) rfl)) rfl
theorem k_f_SampleDeskModel_26 : Cond.fieldLink RX9 26 "SampleDeskModel" "aliased" "[I" ∈ vT := vT_in (vt_r3 (List.mem_of_getElem? (i := 203) rfl)) rfl
theorem k_f_SampleDeskModel_29 : Cond.fieldLink RX9 29 "SampleDeskModel" "shares" "[J" ∈ vT := vT_in (vt_r3 (List.mem_of_getElem? (i := 204) rfl)) rfl
theorem k_f_SampleDeskModel_32 : Cond.fieldLink RX9 32 "SampleDeskModel" "row" "[I" ∈ vT := vT_in (vt_r3 (List.mem_of_getElem? (i := 205) rfl)) rfl
theorem k_f_SampleDeskModel_212 : Cond.fieldLink RX9 212 "SampleDeskModel" "items" "I" ∈ vT := vT_in (vt_r3 (List.mem_of_getElem? (i := 206) rfl)) rfl
theorem k_f_SampleDeskModel_35 : Cond.fieldLink RX9 35 "SampleDeskModel" "item" "[I" ∈ vT := vT_in (vt_r3 (List.mem_of_getElem? (i := 207) rfl)) rfl
theorem k_f_SampleDeskModel_84 : Cond.fieldLink RX9 84 "SampleDeskModel" "tries" "Z" ∈ vT := vT_in (vt_r3 (List.mem_of_getElem? (i := 208) rfl)) rfl
theorem k_f_SampleDeskModel_90 : Cond.fieldLink RX9 90 "SampleDeskModel" "string" "I" ∈ vT := vT_in (vt_r3 (List.mem_of_getElem? (i := 209) rfl)) rfl
theorem k_f_SampleDeskModel_87 : Cond.fieldLink RX9 87 "SampleDeskModel" "length" "I" ∈ vT := vT_in (vt_r3 (List.mem_of_getElem? (i := 210) rfl)) rfl
theorem k_f_SampleDeskModel_81 : Cond.fieldLink RX9 81 "SampleDeskModel" "at" "I" ∈ vT := vT_in (vt_r3 (List.mem_of_getElem? (i := 211) rfl)) rfl
theorem k_f_SampleDeskModel_93 : Cond.fieldLink RX9 93 "SampleDeskModel" "read" "I" ∈ vT := vT_in (vt_r3 (List.mem_of_getElem? (i := 212) rfl)) rfl
theorem k_f_SampleDeskModel_77 : Cond.fieldLink RX9 77 "SampleDeskModel" "ended" "Z" ∈ vT := vT_in (vt_r3 (List.mem_of_getElem? (i := 213) rfl)) rfl
theorem k_f_SampleDeskModel_123 : Cond.fieldLink RX9 123 "SampleDeskModel" "made" "I" ∈ vT := vT_in (vt_r3 (List.mem_of_getElem? (i := 214) rfl)) rfl
theorem k_f_SampleDeskModel_38 : Cond.fieldLink RX9 38 "SampleDeskModel" "work" "[I" ∈ vT := vT_in (vt_r3 (List.mem_of_getElem? (i := 215) rfl)) rfl
theorem k_f_SampleDeskModel_191 : Cond.fieldLink RX9 191 "SampleDeskModel" "entries" "I" ∈ vT := vT_in (vt_r3 (List.mem_of_getElem? (i := 216) rfl)) rfl
theorem k_f_SampleDeskModel_41 : Cond.fieldLink RX9 41 "SampleDeskModel" "journal" "[I" ∈ vT := vT_in (vt_r3 (List.mem_of_getElem? (i := 217) rfl)) rfl
theorem k_f_SampleDeskModel_44 : Cond.fieldLink RX9 44 "SampleDeskModel" "answers" "[J" ∈ vT := vT_in (vt_r3 (List.mem_of_getElem? (i := 218) rfl)) rfl
theorem k_lay_SampleDeskModel_thrown : Cond.lays RX9 "SampleDeskModel" "thrown" "I" ∈ vT := vT_in (vt_r3 (List.mem_of_getElem? (i := 219) rfl)) rfl
theorem k_lay_SampleDeskModel_fed : Cond.lays RX9 "SampleDeskModel" "fed" "I" ∈ vT := vT_in (vt_r3 (List.mem_of_getElem? (i := 221) rfl)) rfl
theorem k_lay_SampleDeskModel_place : Cond.lays RX9 "SampleDeskModel" "place" "I" ∈ vT := vT_in (vt_r3 (List.mem_of_getElem? (i := 223) rfl)) rfl
theorem k_lay_SampleDeskModel_draws : Cond.lays RX9 "SampleDeskModel" "draws" "I" ∈ vT := vT_in (vt_r3 (List.mem_of_getElem? (i := 225) rfl)) rfl
theorem k_lay_SampleDeskModel_latest : Cond.lays RX9 "SampleDeskModel" "latest" "I" ∈ vT := vT_in (vt_r3 (List.mem_of_getElem? (i := 227) rfl)) rfl
theorem k_lay_SampleDeskModel_tape : Cond.laysFinal RX9 "SampleDeskModel" "tape" "[I" ∈ vT := vT_in (vt_r3 (List.mem_of_getElem? (i := 229) rfl)) rfl
theorem k_lay_SampleDeskModel_weights : Cond.laysFinal RX9 "SampleDeskModel" "weights" "[J" ∈ vT := vT_in (vt_r3 (List.mem_of_getElem? (i := 231) rfl)) rfl
theorem k_lay_SampleDeskModel_built : Cond.laysFinal RX9 "SampleDeskModel" "built" "[I" ∈ vT := vT_in (vt_r3 (List.mem_of_getElem? (i := 233) rfl)) rfl
theorem k_lay_SampleDeskModel_limits : Cond.laysFinal RX9 "SampleDeskModel" "limits" "[J" ∈ vT := vT_in (vt_r3 (List.mem_of_getElem? (i := 235) rfl)) rfl
theorem k_lay_SampleDeskModel_aliases : Cond.laysFinal RX9 "SampleDeskModel" "aliases" "[I" ∈ vT := vT_in (vt_r3 (List.mem_of_getElem? (i := 237) rfl)) rfl
theorem k_lay_SampleDeskModel_aliased : Cond.laysFinal RX9 "SampleDeskModel" "aliased" "[I" ∈ vT := vT_in (vt_r3 (List.mem_of_getElem? (i := 239) rfl)) rfl
theorem k_lay_SampleDeskModel_shares : Cond.laysFinal RX9 "SampleDeskModel" "shares" "[J" ∈ vT := vT_in (vt_r4 (List.mem_of_getElem? (i := 1) rfl)) rfl
theorem k_lay_SampleDeskModel_row : Cond.laysFinal RX9 "SampleDeskModel" "row" "[I" ∈ vT := vT_in (vt_r4 (List.mem_of_getElem? (i := 3) rfl)) rfl
theorem k_lay_SampleDeskModel_items : Cond.lays RX9 "SampleDeskModel" "items" "I" ∈ vT := vT_in (vt_r4 (List.mem_of_getElem? (i := 5) rfl)) rfl
theorem k_lay_SampleDeskModel_item : Cond.laysFinal RX9 "SampleDeskModel" "item" "[I" ∈ vT := vT_in (vt_r4 (List.mem_of_getElem? (i := 7) rfl)) rfl
theorem k_lay_SampleDeskModel_tries : Cond.lays RX9 "SampleDeskModel" "tries" "Z" ∈ vT := vT_in (vt_r4 (List.mem_of_getElem? (i := 9) rfl)) rfl
theorem k_lay_SampleDeskModel_string : Cond.lays RX9 "SampleDeskModel" "string" "I" ∈ vT := vT_in (vt_r4 (List.mem_of_getElem? (i := 11) rfl)) rfl
theorem k_lay_SampleDeskModel_length : Cond.lays RX9 "SampleDeskModel" "length" "I" ∈ vT := vT_in (vt_r4 (List.mem_of_getElem? (i := 13) rfl)) rfl
theorem k_lay_SampleDeskModel_at : Cond.lays RX9 "SampleDeskModel" "at" "I" ∈ vT := vT_in (vt_r4 (List.mem_of_getElem? (i := 15) rfl)) rfl
theorem k_lay_SampleDeskModel_read : Cond.lays RX9 "SampleDeskModel" "read" "I" ∈ vT := vT_in (vt_r4 (List.mem_of_getElem? (i := 17) rfl)) rfl
theorem k_lay_SampleDeskModel_ended : Cond.lays RX9 "SampleDeskModel" "ended" "Z" ∈ vT := vT_in (vt_r4 (List.mem_of_getElem? (i := 19) rfl)) rfl
theorem k_lay_SampleDeskModel_made : Cond.lays RX9 "SampleDeskModel" "made" "I" ∈ vT := vT_in (vt_r4 (List.mem_of_getElem? (i := 21) rfl)) rfl
theorem k_lay_SampleDeskModel_work : Cond.laysFinal RX9 "SampleDeskModel" "work" "[I" ∈ vT := vT_in (vt_r4 (List.mem_of_getElem? (i := 23) rfl)) rfl
theorem k_lay_SampleDeskModel_entries : Cond.lays RX9 "SampleDeskModel" "entries" "I" ∈ vT := vT_in (vt_r4 (List.mem_of_getElem? (i := 25) rfl)) rfl
theorem k_lay_SampleDeskModel_journal : Cond.laysFinal RX9 "SampleDeskModel" "journal" "[I" ∈ vT := vT_in (vt_r4 (List.mem_of_getElem? (i := 27) rfl)) rfl
theorem k_lay_SampleDeskModel_answers : Cond.laysFinal RX9 "SampleDeskModel" "answers" "[J" ∈ vT := vT_in (vt_r4 (List.mem_of_getElem? (i := 29) rfl)) rfl
theorem k_m_SampleDeskLaw_73 : Cond.methodLink RL 73 yX9_thrown ∈ vT := vT_in (vt_r4 (List.mem_of_getElem? (i := 32) rfl)) rfl
theorem k_instanceMethod_X9_thrown : Cond.instanceMethod yX9_thrown ∈ vT := vT_in (vt_r4 (List.mem_of_getElem? (i := 33) rfl)) rfl
theorem k_selects_X9_thrown : Cond.selects RX9 yX9_thrown yX9_thrown ∈ vT := vT_in (vt_r4 (List.mem_of_getElem? (i := 34) rfl)) rfl
theorem k_code_X9_thrown : Cond.code yX9_thrown cX9_thrown 1 (some .int) ∈ vT := vT_in (vt_r4 (List.mem_of_getElem? (i := 35) rfl)) rfl
theorem k_m_SampleDeskLaw_72 : Cond.methodLink RL 72 yX9_feed ∈ vT := vT_in (vt_r4 (List.mem_of_getElem? (i := 36) rfl)) rfl
theorem k_instanceMethod_X9_feed : Cond.instanceMethod yX9_feed ∈ vT := vT_in (vt_r4 (List.mem_of_getElem? (i := 37) rfl)) rfl
theorem k_selects_X9_feed : Cond.selects RX9 yX9_feed yX9_feed ∈ vT := vT_in (vt_r4 (List.mem_of_getElem? (i := 38) rfl)) rfl
theorem k_code_X9_feed : Cond.code yX9_feed cX9_feed 7 (some .int) ∈ vT := vT_in (vt_r4 (List.mem_of_getElem? (i := 39) rfl)) rfl
theorem k_m_SampleDeskModel_54 : Cond.methodLink RX9 54 yX9_fail ∈ vT := vT_in (vt_r4 (List.mem_of_getElem? (i := 40) rfl)) rfl
theorem k_instanceMethod_X9_fail : Cond.instanceMethod yX9_fail ∈ vT := vT_in (vt_r4 (List.mem_of_getElem? (i := 42) rfl)) rfl
theorem k_code_X9_fail : Cond.code yX9_fail cX9_fail 2 (some .int) ∈ vT := vT_in (vt_r4 (List.mem_of_getElem? (i := 43) rfl)) rfl
theorem k_m_SampleDeskLaw_80 : Cond.methodLink RL 80 yX9_bit ∈ vT := vT_in (vt_r4 (List.mem_of_getElem? (i := 44) rfl)) rfl
theorem k_instanceMethod_X9_bit : Cond.instanceMethod yX9_bit ∈ vT := vT_in (vt_r4 (List.mem_of_getElem? (i := 45) rfl)) rfl
theorem k_selects_X9_bit : Cond.selects RX9 yX9_bit yX9_bit ∈ vT := vT_in (vt_r4 (List.mem_of_getElem? (i := 46) rfl)) rfl
theorem k_code_X9_bit : Cond.code yX9_bit cX9_bit 4 (some .int) ∈ vT := vT_in (vt_r4 (List.mem_of_getElem? (i := 47) rfl)) rfl
theorem k_m_SampleDeskModel_58 : Cond.methodLink RX9 58 yX9_within ∈ vT := vT_in (vt_r4 (List.mem_of_getElem? (i := 48) rfl)) rfl
theorem k_static_X9_within : Cond.static yX9_within ∈ vT := vT_in (vt_r4 (List.mem_of_getElem? (i := 49) rfl)) rfl
theorem k_code_X9_within : Cond.code yX9_within cX9_within 6 (some .boolean) ∈ vT := vT_in (vt_r4 (List.mem_of_getElem? (i := 50) rfl)) rfl
theorem k_m_SampleDeskLaw_84 : Cond.methodLink RL 84 yX9_rewind ∈ vT := vT_in (vt_r4 (List.mem_of_getElem? (i := 51) rfl)) rfl
theorem k_instanceMethod_X9_rewind : Cond.instanceMethod yX9_rewind ∈ vT := vT_in (vt_r4 (List.mem_of_getElem? (i := 52) rfl)) rfl
theorem k_selects_X9_rewind : Cond.selects RX9 yX9_rewind yX9_rewind ∈ vT := vT_in (vt_r4 (List.mem_of_getElem? (i := 53) rfl)) rfl
theorem k_code_X9_rewind : Cond.code yX9_rewind cX9_rewind 3 (some .int) ∈ vT := vT_in (vt_r4 (List.mem_of_getElem? (i := 54) rfl)) rfl
theorem k_m_SampleDeskLaw_88 : Cond.methodLink RL 88 yX9_weight ∈ vT := vT_in (vt_r4 (List.mem_of_getElem? (i := 55) rfl)) rfl
theorem k_instanceMethod_X9_weight : Cond.instanceMethod yX9_weight ∈ vT := vT_in (vt_r4 (List.mem_of_getElem? (i := 56) rfl)) rfl
theorem k_selects_X9_weight : Cond.selects RX9 yX9_weight yX9_weight ∈ vT := vT_in (vt_r4 (List.mem_of_getElem? (i := 57) rfl)) rfl
theorem k_code_X9_weight : Cond.code yX9_weight cX9_weight 5 (some .int) ∈ vT := vT_in (vt_r4 (List.mem_of_getElem? (i := 58) rfl)) rfl
theorem k_c_SampleDeskModel_65 : Cond.constantLong RX9 65 7 ∈ vT := vT_in (vt_r4 (List.mem_of_getElem? (i := 59) rfl)) rfl
theorem k_c_SampleDeskModel_67 : Cond.constantLong RX9 67 63 ∈ vT := vT_in (vt_r4 (List.mem_of_getElem? (i := 60) rfl)) rfl
theorem k_m_SampleDeskLaw_91 : Cond.methodLink RL 91 yX9_build ∈ vT := vT_in (vt_r4 (List.mem_of_getElem? (i := 61) rfl)) rfl
theorem k_instanceMethod_X9_build : Cond.instanceMethod yX9_build ∈ vT := vT_in (vt_r4 (List.mem_of_getElem? (i := 62) rfl)) rfl
theorem k_selects_X9_build : Cond.selects RX9 yX9_build yX9_build ∈ vT := vT_in (vt_r4 (List.mem_of_getElem? (i := 63) rfl)) rfl
theorem k_code_X9_build : Cond.code yX9_build cX9_build 5 (some .long) ∈ vT := vT_in (vt_r4 (List.mem_of_getElem? (i := 64) rfl)) rfl
theorem k_m_SampleDeskModel_69 : Cond.methodLink RX9 69 yX9_sum ∈ vT := vT_in (vt_r4 (List.mem_of_getElem? (i := 65) rfl)) rfl
theorem k_instanceMethod_X9_sum : Cond.instanceMethod yX9_sum ∈ vT := vT_in (vt_r4 (List.mem_of_getElem? (i := 67) rfl)) rfl
theorem k_code_X9_sum : Cond.code yX9_sum cX9_sum 5 (some .long) ∈ vT := vT_in (vt_r4 (List.mem_of_getElem? (i := 68) rfl)) rfl
theorem k_m_SampleDeskModel_73 : Cond.methodLink RX9 73 yX9_findAliases ∈ vT := vT_in (vt_r4 (List.mem_of_getElem? (i := 69) rfl)) rfl
theorem k_instanceMethod_X9_findAliases : Cond.instanceMethod yX9_findAliases ∈ vT := vT_in (vt_r4 (List.mem_of_getElem? (i := 71) rfl)) rfl
theorem k_code_X9_findAliases : Cond.code yX9_findAliases cX9_findAliases 9 (none : Option FieldType) ∈ vT := vT_in (vt_r4 (List.mem_of_getElem? (i := 72) rfl)) rfl
theorem k_m_SampleDeskLaw_94 : Cond.methodLink RL 94 yX9_alias ∈ vT := vT_in (vt_r4 (List.mem_of_getElem? (i := 73) rfl)) rfl
theorem k_instanceMethod_X9_alias : Cond.instanceMethod yX9_alias ∈ vT := vT_in (vt_r4 (List.mem_of_getElem? (i := 74) rfl)) rfl
theorem k_selects_X9_alias : Cond.selects RX9 yX9_alias yX9_alias ∈ vT := vT_in (vt_r4 (List.mem_of_getElem? (i := 75) rfl)) rfl
theorem k_code_X9_alias : Cond.code yX9_alias cX9_alias 4 (some .long) ∈ vT := vT_in (vt_r4 (List.mem_of_getElem? (i := 76) rfl)) rfl
theorem k_m_SampleDeskLaw_97 : Cond.methodLink RL 97 yX9_draw ∈ vT := vT_in (vt_r4 (List.mem_of_getElem? (i := 77) rfl)) rfl
theorem k_instanceMethod_X9_draw : Cond.instanceMethod yX9_draw ∈ vT := vT_in (vt_r4 (List.mem_of_getElem? (i := 78) rfl)) rfl
theorem k_selects_X9_draw : Cond.selects RX9 yX9_draw yX9_draw ∈ vT := vT_in (vt_r4 (List.mem_of_getElem? (i := 79) rfl)) rfl
theorem k_code_X9_draw : Cond.code yX9_draw cX9_draw 8 (some .long) ∈ vT := vT_in (vt_r4 (List.mem_of_getElem? (i := 80) rfl)) rfl
theorem k_m_SampleDeskModel_197 : Cond.methodLink RX9 197 yX9_canBe ∈ vT := vT_in (vt_r4 (List.mem_of_getElem? (i := 81) rfl)) rfl
theorem k_static_X9_canBe : Cond.static yX9_canBe ∈ vT := vT_in (vt_r4 (List.mem_of_getElem? (i := 82) rfl)) rfl
theorem k_code_X9_canBe : Cond.code yX9_canBe cX9_canBe 4 (some .boolean) ∈ vT := vT_in (vt_r4 (List.mem_of_getElem? (i := 83) rfl)) rfl
theorem k_c_SampleDeskModel_147 : Cond.constantLong RX9 147 511 ∈ vT := vT_in (vt_r4 (List.mem_of_getElem? (i := 84) rfl)) rfl
theorem k_m_SampleDeskModel_149 : Cond.methodLink RX9 149 yX9_isChance ∈ vT := vT_in (vt_r4 (List.mem_of_getElem? (i := 85) rfl)) rfl
theorem k_static_X9_isChance : Cond.static yX9_isChance ∈ vT := vT_in (vt_r4 (List.mem_of_getElem? (i := 86) rfl)) rfl
theorem k_code_X9_isChance : Cond.code yX9_isChance cX9_isChance 2 (some .boolean) ∈ vT := vT_in (vt_r4 (List.mem_of_getElem? (i := 87) rfl)) rfl
theorem k_c_SampleDeskModel_153 : Cond.constantLong RX9 153 1000 ∈ vT := vT_in (vt_r4 (List.mem_of_getElem? (i := 88) rfl)) rfl
theorem k_c_SampleDeskModel_155 : Cond.constantLong RX9 155 100000 ∈ vT := vT_in (vt_r4 (List.mem_of_getElem? (i := 89) rfl)) rfl
theorem k_c_SampleDeskModel_157 : Cond.constantLong RX9 157 64 ∈ vT := vT_in (vt_r4 (List.mem_of_getElem? (i := 90) rfl)) rfl
theorem k_c_SampleDeskModel_159 : Cond.constantLong RX9 159 10 ∈ vT := vT_in (vt_r4 (List.mem_of_getElem? (i := 91) rfl)) rfl
theorem k_c_SampleDeskModel_161 : Cond.constantLong RX9 161 256 ∈ vT := vT_in (vt_r4 (List.mem_of_getElem? (i := 92) rfl)) rfl
theorem k_c_SampleDeskModel_163 : Cond.constantLong RX9 163 128 ∈ vT := vT_in (vt_r4 (List.mem_of_getElem? (i := 93) rfl)) rfl
theorem k_m_SampleDeskModel_201 : Cond.methodLink RX9 201 yX9_isReady ∈ vT := vT_in (vt_r4 (List.mem_of_getElem? (i := 94) rfl)) rfl
theorem k_instanceMethod_X9_isReady : Cond.instanceMethod yX9_isReady ∈ vT := vT_in (vt_r4 (List.mem_of_getElem? (i := 96) rfl)) rfl
theorem k_code_X9_isReady : Cond.code yX9_isReady cX9_isReady 3 (some .boolean) ∈ vT := vT_in (vt_r4 (List.mem_of_getElem? (i := 97) rfl)) rfl
theorem k_m_SampleDeskModel_204 : Cond.methodLink RX9 204 yX9_go ∈ vT := vT_in (vt_r4 (List.mem_of_getElem? (i := 98) rfl)) rfl
theorem k_instanceMethod_X9_go : Cond.instanceMethod yX9_go ∈ vT := vT_in (vt_r4 (List.mem_of_getElem? (i := 100) rfl)) rfl
theorem k_code_X9_go : Cond.code yX9_go cX9_go 6 (some .long) ∈ vT := vT_in (vt_r4 (List.mem_of_getElem? (i := 101) rfl)) rfl
theorem k_m_SampleDeskModel_165 : Cond.methodLink RX9 165 yX9_fromTable ∈ vT := vT_in (vt_r4 (List.mem_of_getElem? (i := 102) rfl)) rfl
theorem k_instanceMethod_X9_fromTable : Cond.instanceMethod yX9_fromTable ∈ vT := vT_in (vt_r4 (List.mem_of_getElem? (i := 104) rfl)) rfl
theorem k_code_X9_fromTable : Cond.code yX9_fromTable cX9_fromTable 3 (some .long) ∈ vT := vT_in (vt_r4 (List.mem_of_getElem? (i := 105) rfl)) rfl
theorem k_m_SampleDeskModel_102 : Cond.methodLink RX9 102 yX9_fromTree ∈ vT := vT_in (vt_r4 (List.mem_of_getElem? (i := 106) rfl)) rfl
theorem k_instanceMethod_X9_fromTree : Cond.instanceMethod yX9_fromTree ∈ vT := vT_in (vt_r4 (List.mem_of_getElem? (i := 108) rfl)) rfl
theorem k_code_X9_fromTree : Cond.code yX9_fromTree cX9_fromTree 7 (some .long) ∈ vT := vT_in (vt_r4 (List.mem_of_getElem? (i := 109) rfl)) rfl
theorem k_c_SampleDeskModel_96 : Cond.constantLong RX9 96 2 ∈ vT := vT_in (vt_r4 (List.mem_of_getElem? (i := 110) rfl)) rfl
theorem k_m_SampleDeskModel_98 : Cond.methodLink RX9 98 yX9_nextBit ∈ vT := vT_in (vt_r4 (List.mem_of_getElem? (i := 111) rfl)) rfl
theorem k_instanceMethod_X9_nextBit : Cond.instanceMethod yX9_nextBit ∈ vT := vT_in (vt_r4 (List.mem_of_getElem? (i := 113) rfl)) rfl
theorem k_code_X9_nextBit : Cond.code yX9_nextBit cX9_nextBit 2 (some .int) ∈ vT := vT_in (vt_r4 (List.mem_of_getElem? (i := 114) rfl)) rfl
theorem k_m_SampleDeskModel_105 : Cond.methodLink RX9 105 yX9_uniform ∈ vT := vT_in (vt_r4 (List.mem_of_getElem? (i := 115) rfl)) rfl
theorem k_instanceMethod_X9_uniform : Cond.instanceMethod yX9_uniform ∈ vT := vT_in (vt_r4 (List.mem_of_getElem? (i := 117) rfl)) rfl
theorem k_code_X9_uniform : Cond.code yX9_uniform cX9_uniform 7 (some .long) ∈ vT := vT_in (vt_r4 (List.mem_of_getElem? (i := 118) rfl)) rfl
theorem k_m_SampleDeskModel_109 : Cond.methodLink RX9 109 yX9_coin ∈ vT := vT_in (vt_r4 (List.mem_of_getElem? (i := 119) rfl)) rfl
theorem k_instanceMethod_X9_coin : Cond.instanceMethod yX9_coin ∈ vT := vT_in (vt_r4 (List.mem_of_getElem? (i := 121) rfl)) rfl
theorem k_code_X9_coin : Cond.code yX9_coin cX9_coin 9 (some .int) ∈ vT := vT_in (vt_r4 (List.mem_of_getElem? (i := 122) rfl)) rfl
theorem k_c_SampleDeskModel_168 : Cond.constantLong RX9 168 2147483648 ∈ vT := vT_in (vt_r4 (List.mem_of_getElem? (i := 123) rfl)) rfl
theorem k_m_SampleDeskModel_170 : Cond.methodLink RX9 170 yX9_binomial ∈ vT := vT_in (vt_r4 (List.mem_of_getElem? (i := 124) rfl)) rfl
theorem k_instanceMethod_X9_binomial : Cond.instanceMethod yX9_binomial ∈ vT := vT_in (vt_r4 (List.mem_of_getElem? (i := 126) rfl)) rfl
theorem k_code_X9_binomial : Cond.code yX9_binomial cX9_binomial 7 (some .long) ∈ vT := vT_in (vt_r4 (List.mem_of_getElem? (i := 127) rfl)) rfl
theorem k_m_SampleDeskModel_174 : Cond.methodLink RX9 174 yX9_geometric ∈ vT := vT_in (vt_r4 (List.mem_of_getElem? (i := 128) rfl)) rfl
theorem k_instanceMethod_X9_geometric : Cond.instanceMethod yX9_geometric ∈ vT := vT_in (vt_r4 (List.mem_of_getElem? (i := 130) rfl)) rfl
theorem k_code_X9_geometric : Cond.code yX9_geometric cX9_geometric 5 (some .long) ∈ vT := vT_in (vt_r4 (List.mem_of_getElem? (i := 131) rfl)) rfl
theorem k_m_SampleDeskModel_177 : Cond.methodLink RX9 177 yX9_poisson ∈ vT := vT_in (vt_r4 (List.mem_of_getElem? (i := 132) rfl)) rfl
theorem k_instanceMethod_X9_poisson : Cond.instanceMethod yX9_poisson ∈ vT := vT_in (vt_r4 (List.mem_of_getElem? (i := 134) rfl)) rfl
theorem k_code_X9_poisson : Cond.code yX9_poisson cX9_poisson 11 (some .long) ∈ vT := vT_in (vt_r4 (List.mem_of_getElem? (i := 135) rfl)) rfl
theorem k_m_SampleDeskModel_116 : Cond.methodLink RX9 116 yX9_once ∈ vT := vT_in (vt_r4 (List.mem_of_getElem? (i := 136) rfl)) rfl
theorem k_instanceMethod_X9_once : Cond.instanceMethod yX9_once ∈ vT := vT_in (vt_r4 (List.mem_of_getElem? (i := 138) rfl)) rfl
theorem k_code_X9_once : Cond.code yX9_once cX9_once 10 (some .long) ∈ vT := vT_in (vt_r4 (List.mem_of_getElem? (i := 139) rfl)) rfl
theorem k_m_SampleDeskModel_180 : Cond.methodLink RX9 180 yX9_hyper ∈ vT := vT_in (vt_r4 (List.mem_of_getElem? (i := 140) rfl)) rfl
theorem k_instanceMethod_X9_hyper : Cond.instanceMethod yX9_hyper ∈ vT := vT_in (vt_r4 (List.mem_of_getElem? (i := 142) rfl)) rfl
theorem k_code_X9_hyper : Cond.code yX9_hyper cX9_hyper 11 (some .long) ∈ vT := vT_in (vt_r4 (List.mem_of_getElem? (i := 143) rfl)) rfl
theorem k_m_SampleDeskModel_183 : Cond.methodLink RX9 183 yX9_bell ∈ vT := vT_in (vt_r4 (List.mem_of_getElem? (i := 144) rfl)) rfl
theorem k_instanceMethod_X9_bell : Cond.instanceMethod yX9_bell ∈ vT := vT_in (vt_r4 (List.mem_of_getElem? (i := 146) rfl)) rfl
theorem k_code_X9_bell : Cond.code yX9_bell cX9_bell 16 (some .long) ∈ vT := vT_in (vt_r4 (List.mem_of_getElem? (i := 147) rfl)) rfl
theorem k_m_SampleDeskModel_120 : Cond.methodLink RX9 120 yX9_exponential ∈ vT := vT_in (vt_r4 (List.mem_of_getElem? (i := 148) rfl)) rfl
theorem k_instanceMethod_X9_exponential : Cond.instanceMethod yX9_exponential ∈ vT := vT_in (vt_r4 (List.mem_of_getElem? (i := 150) rfl)) rfl
theorem k_code_X9_exponential : Cond.code yX9_exponential cX9_exponential 7 (some .int) ∈ vT := vT_in (vt_r4 (List.mem_of_getElem? (i := 151) rfl)) rfl
theorem k_m_SampleDeskModel_113 : Cond.methodLink RX9 113 yX9_unitExponential ∈ vT := vT_in (vt_r4 (List.mem_of_getElem? (i := 152) rfl)) rfl
theorem k_instanceMethod_X9_unitExponential : Cond.instanceMethod yX9_unitExponential ∈ vT := vT_in (vt_r4 (List.mem_of_getElem? (i := 154) rfl)) rfl
theorem k_code_X9_unitExponential : Cond.code yX9_unitExponential cX9_unitExponential 7 (some .int) ∈ vT := vT_in (vt_r4 (List.mem_of_getElem? (i := 155) rfl)) rfl
theorem k_m_SampleDeskModel_186 : Cond.methodLink RX9 186 yX9_makeItems ∈ vT := vT_in (vt_r4 (List.mem_of_getElem? (i := 156) rfl)) rfl
theorem k_instanceMethod_X9_makeItems : Cond.instanceMethod yX9_makeItems ∈ vT := vT_in (vt_r4 (List.mem_of_getElem? (i := 158) rfl)) rfl
theorem k_code_X9_makeItems : Cond.code yX9_makeItems cX9_makeItems 4 (some .long) ∈ vT := vT_in (vt_r4 (List.mem_of_getElem? (i := 159) rfl)) rfl
theorem k_m_SampleDeskModel_134 : Cond.methodLink RX9 134 yX9_shuffle ∈ vT := vT_in (vt_r4 (List.mem_of_getElem? (i := 160) rfl)) rfl
theorem k_instanceMethod_X9_shuffle : Cond.instanceMethod yX9_shuffle ∈ vT := vT_in (vt_r4 (List.mem_of_getElem? (i := 162) rfl)) rfl
theorem k_code_X9_shuffle : Cond.code yX9_shuffle cX9_shuffle 5 (none : Option FieldType) ∈ vT := vT_in (vt_r4 (List.mem_of_getElem? (i := 163) rfl)) rfl
theorem k_m_SampleDeskModel_137 : Cond.methodLink RX9 137 yX9_subset ∈ vT := vT_in (vt_r4 (List.mem_of_getElem? (i := 164) rfl)) rfl
theorem k_instanceMethod_X9_subset : Cond.instanceMethod yX9_subset ∈ vT := vT_in (vt_r4 (List.mem_of_getElem? (i := 166) rfl)) rfl
theorem k_code_X9_subset : Cond.code yX9_subset cX9_subset 4 (none : Option FieldType) ∈ vT := vT_in (vt_r4 (List.mem_of_getElem? (i := 167) rfl)) rfl
theorem k_m_SampleDeskModel_128 : Cond.methodLink RX9 128 yX9_path ∈ vT := vT_in (vt_r4 (List.mem_of_getElem? (i := 168) rfl)) rfl
theorem k_instanceMethod_X9_path : Cond.instanceMethod yX9_path ∈ vT := vT_in (vt_r4 (List.mem_of_getElem? (i := 170) rfl)) rfl
theorem k_code_X9_path : Cond.code yX9_path cX9_path 7 (none : Option FieldType) ∈ vT := vT_in (vt_r4 (List.mem_of_getElem? (i := 171) rfl)) rfl
theorem k_c_SampleDeskModel_126 : Cond.constantLong RX9 126 (-1) ∈ vT := vT_in (vt_r4 (List.mem_of_getElem? (i := 172) rfl)) rfl
theorem k_m_SampleDeskModel_141 : Cond.methodLink RX9 141 yX9_tree ∈ vT := vT_in (vt_r4 (List.mem_of_getElem? (i := 173) rfl)) rfl
theorem k_instanceMethod_X9_tree : Cond.instanceMethod yX9_tree ∈ vT := vT_in (vt_r4 (List.mem_of_getElem? (i := 175) rfl)) rfl
theorem k_code_X9_tree : Cond.code yX9_tree cX9_tree 3 (none : Option FieldType) ∈ vT := vT_in (vt_r4 (List.mem_of_getElem? (i := 176) rfl)) rfl
theorem k_m_SampleDeskModel_131 : Cond.methodLink RX9 131 yX9_below ∈ vT := vT_in (vt_r4 (List.mem_of_getElem? (i := 177) rfl)) rfl
theorem k_instanceMethod_X9_below : Cond.instanceMethod yX9_below ∈ vT := vT_in (vt_r4 (List.mem_of_getElem? (i := 179) rfl)) rfl
theorem k_code_X9_below : Cond.code yX9_below cX9_below 4 (some .int) ∈ vT := vT_in (vt_r4 (List.mem_of_getElem? (i := 180) rfl)) rfl
theorem k_m_SampleDeskModel_144 : Cond.methodLink RX9 144 yX9_stratum ∈ vT := vT_in (vt_r4 (List.mem_of_getElem? (i := 181) rfl)) rfl
theorem k_instanceMethod_X9_stratum : Cond.instanceMethod yX9_stratum ∈ vT := vT_in (vt_r4 (List.mem_of_getElem? (i := 183) rfl)) rfl
theorem k_code_X9_stratum : Cond.code yX9_stratum cX9_stratum 4 (none : Option FieldType) ∈ vT := vT_in (vt_r4 (List.mem_of_getElem? (i := 184) rfl)) rfl
theorem k_m_SampleDeskModel_208 : Cond.methodLink RX9 208 yX9_note ∈ vT := vT_in (vt_r4 (List.mem_of_getElem? (i := 185) rfl)) rfl
theorem k_instanceMethod_X9_note : Cond.instanceMethod yX9_note ∈ vT := vT_in (vt_r4 (List.mem_of_getElem? (i := 187) rfl)) rfl
theorem k_code_X9_note : Cond.code yX9_note cX9_note 8 (none : Option FieldType) ∈ vT := vT_in (vt_r4 (List.mem_of_getElem? (i := 188) rfl)) rfl
theorem k_m_SampleDeskModel_194 : Cond.methodLink RX9 194 yX9_sumOfItems ∈ vT := vT_in (vt_r4 (List.mem_of_getElem? (i := 189) rfl)) rfl
theorem k_instanceMethod_X9_sumOfItems : Cond.instanceMethod yX9_sumOfItems ∈ vT := vT_in (vt_r4 (List.mem_of_getElem? (i := 191) rfl)) rfl
theorem k_code_X9_sumOfItems : Cond.code yX9_sumOfItems cX9_sumOfItems 5 (some .int) ∈ vT := vT_in (vt_r4 (List.mem_of_getElem? (i := 192) rfl)) rfl
theorem k_c_SampleDeskModel_189 : Cond.constantLong RX9 189 1000003 ∈ vT := vT_in (vt_r4 (List.mem_of_getElem? (i := 193) rfl)) rfl
theorem k_m_SampleDeskLaw_100 : Cond.methodLink RL 100 yX9_item ∈ vT := vT_in (vt_r4 (List.mem_of_getElem? (i := 194) rfl)) rfl
theorem k_instanceMethod_X9_item : Cond.instanceMethod yX9_item ∈ vT := vT_in (vt_r4 (List.mem_of_getElem? (i := 195) rfl)) rfl
theorem k_selects_X9_item : Cond.selects RX9 yX9_item yX9_item ∈ vT := vT_in (vt_r4 (List.mem_of_getElem? (i := 196) rfl)) rfl
theorem k_code_X9_item : Cond.code yX9_item cX9_item 2 (some .int) ∈ vT := vT_in (vt_r4 (List.mem_of_getElem? (i := 197) rfl)) rfl
theorem k_m_SampleDeskLaw_104 : Cond.methodLink RL 104 yX9_decided ∈ vT := vT_in (vt_r4 (List.mem_of_getElem? (i := 198) rfl)) rfl
theorem k_instanceMethod_X9_decided : Cond.instanceMethod yX9_decided ∈ vT := vT_in (vt_r4 (List.mem_of_getElem? (i := 199) rfl)) rfl
theorem k_selects_X9_decided : Cond.selects RX9 yX9_decided yX9_decided ∈ vT := vT_in (vt_r4 (List.mem_of_getElem? (i := 200) rfl)) rfl
theorem k_code_X9_decided : Cond.code yX9_decided cX9_decided 7 (some .int) ∈ vT := vT_in (vt_r4 (List.mem_of_getElem? (i := 201) rfl)) rfl
theorem k_m_SampleDeskModel_223 : Cond.methodLink RX9 223 yX9_canTry ∈ vT := vT_in (vt_r4 (List.mem_of_getElem? (i := 202) rfl)) rfl
theorem k_instanceMethod_X9_canTry : Cond.instanceMethod yX9_canTry ∈ vT := vT_in (vt_r4 (List.mem_of_getElem? (i := 204) rfl)) rfl
theorem k_code_X9_canTry : Cond.code yX9_canTry cX9_canTry 6 (some .boolean) ∈ vT := vT_in (vt_r4 (List.mem_of_getElem? (i := 205) rfl)) rfl
theorem k_c_SampleDeskModel_221 : Cond.constantLong RX9 221 12 ∈ vT := vT_in (vt_r4 (List.mem_of_getElem? (i := 206) rfl)) rfl
theorem k_m_SampleDeskModel_227 : Cond.methodLink RX9 227 yX9_tryAll ∈ vT := vT_in (vt_r4 (List.mem_of_getElem? (i := 207) rfl)) rfl
theorem k_instanceMethod_X9_tryAll : Cond.instanceMethod yX9_tryAll ∈ vT := vT_in (vt_r4 (List.mem_of_getElem? (i := 209) rfl)) rfl
theorem k_code_X9_tryAll : Cond.code yX9_tryAll cX9_tryAll 13 (some .int) ∈ vT := vT_in (vt_r4 (List.mem_of_getElem? (i := 210) rfl)) rfl
theorem k_m_SampleDeskLaw_108 : Cond.methodLink RL 108 yX9_undecided ∈ vT := vT_in (vt_r4 (List.mem_of_getElem? (i := 211) rfl)) rfl
theorem k_instanceMethod_X9_undecided : Cond.instanceMethod yX9_undecided ∈ vT := vT_in (vt_r4 (List.mem_of_getElem? (i := 212) rfl)) rfl
theorem k_selects_X9_undecided : Cond.selects RX9 yX9_undecided yX9_undecided ∈ vT := vT_in (vt_r4 (List.mem_of_getElem? (i := 213) rfl)) rfl
theorem k_code_X9_undecided : Cond.code yX9_undecided cX9_undecided 6 (some .int) ∈ vT := vT_in (vt_r4 (List.mem_of_getElem? (i := 214) rfl)) rfl
theorem k_m_SampleDeskLaw_111 : Cond.methodLink RL 111 yX9_journal ∈ vT := vT_in (vt_r4 (List.mem_of_getElem? (i := 215) rfl)) rfl
theorem k_instanceMethod_X9_journal : Cond.instanceMethod yX9_journal ∈ vT := vT_in (vt_r4 (List.mem_of_getElem? (i := 216) rfl)) rfl
theorem k_selects_X9_journal : Cond.selects RX9 yX9_journal yX9_journal ∈ vT := vT_in (vt_r4 (List.mem_of_getElem? (i := 217) rfl)) rfl
theorem k_code_X9_journal : Cond.code yX9_journal cX9_journal 3 (some .long) ∈ vT := vT_in (vt_r4 (List.mem_of_getElem? (i := 218) rfl)) rfl
theorem k_c_SampleDeskModel_231 : Cond.constantLong RX9 231 6 ∈ vT := vT_in (vt_r4 (List.mem_of_getElem? (i := 219) rfl)) rfl
theorem k_m_SampleDeskLaw_114 : Cond.methodLink RL 114 yX9_replay ∈ vT := vT_in (vt_r4 (List.mem_of_getElem? (i := 220) rfl)) rfl
theorem k_instanceMethod_X9_replay : Cond.instanceMethod yX9_replay ∈ vT := vT_in (vt_r4 (List.mem_of_getElem? (i := 221) rfl)) rfl
theorem k_selects_X9_replay : Cond.selects RX9 yX9_replay yX9_replay ∈ vT := vT_in (vt_r4 (List.mem_of_getElem? (i := 222) rfl)) rfl
theorem k_code_X9_replay : Cond.code yX9_replay cX9_replay 6 (some .boolean) ∈ vT := vT_in (vt_r4 (List.mem_of_getElem? (i := 223) rfl)) rfl
theorem k_m_SampleDeskLaw_118 : Cond.methodLink RL 118 yX9_count ∈ vT := vT_in (vt_r4 (List.mem_of_getElem? (i := 224) rfl)) rfl
theorem k_instanceMethod_X9_count : Cond.instanceMethod yX9_count ∈ vT := vT_in (vt_r4 (List.mem_of_getElem? (i := 225) rfl)) rfl
theorem k_selects_X9_count : Cond.selects RX9 yX9_count yX9_count ∈ vT := vT_in (vt_r4 (List.mem_of_getElem? (i := 226) rfl)) rfl
theorem k_code_X9_count : Cond.code yX9_count cX9_count 2 (some .int) ∈ vT := vT_in (vt_r4 (List.mem_of_getElem? (i := 227) rfl)) rfl
theorem k_c_SampleDeskModel_233 : Cond.constantLong RX9 233 4 ∈ vT := vT_in (vt_r4 (List.mem_of_getElem? (i := 228) rfl)) rfl
theorem k_selects_X6_pair : Cond.selects RX6 yX6_pair yX6_pair ∈ vT := vT_sel (List.mem_of_getElem? (i := 1) rfl) rfl
theorem k_selects_X6_takeShares : Cond.selects RX6 yX6_takeShares yX6_takeShares ∈ vT := vT_sel (List.mem_of_getElem? (i := 2) rfl) rfl
theorem k_selects_X6_firstLarge : Cond.selects RX6 yX6_firstLarge yX6_firstLarge ∈ vT := vT_sel (List.mem_of_getElem? (i := 3) rfl) rfl
theorem k_selects_X6_pickByTree : Cond.selects RX6 yX6_pickByTree yX6_pickByTree ∈ vT := vT_sel (List.mem_of_getElem? (i := 4) rfl) rfl
theorem k_selects_X6_pickByAlias : Cond.selects RX6 yX6_pickByAlias yX6_pickByAlias ∈ vT := vT_sel (List.mem_of_getElem? (i := 5) rfl) rfl
theorem k_selects_X1_poissonPart : Cond.selects RX1 yX1_poissonPart yX1_poissonPart ∈ vT := vT_sel (List.mem_of_getElem? (i := 6) rfl) rfl
theorem k_selects_X1_areZero : Cond.selects RX1 yX1_areZero yX1_areZero ∈ vT := vT_sel (List.mem_of_getElem? (i := 7) rfl) rfl
theorem k_selects_X1_exponentialCoinsInARow : Cond.selects RX1 yX1_exponentialCoinsInARow yX1_exponentialCoinsInARow ∈ vT := vT_sel (List.mem_of_getElem? (i := 8) rfl) rfl
theorem k_selects_X4_walk : Cond.selects RX4 yX4_walk yX4_walk ∈ vT := vT_sel (List.mem_of_getElem? (i := 9) rfl) rfl
theorem k_selects_X8_keep : Cond.selects RX8 yX8_keep yX8_keep ∈ vT := vT_sel (List.mem_of_getElem? (i := 10) rfl) rfl
theorem k_selects_X8_requireCountable : Cond.selects RX8 yX8_requireCountable yX8_requireCountable ∈ vT := vT_sel (List.mem_of_getElem? (i := 11) rfl) rfl
theorem k_selects_X8_tally : Cond.selects RX8 yX8_tally yX8_tally ∈ vT := vT_sel (List.mem_of_getElem? (i := 12) rfl) rfl
theorem k_selects_X9_fail : Cond.selects RX9 yX9_fail yX9_fail ∈ vT := vT_sel (List.mem_of_getElem? (i := 13) rfl) rfl
theorem k_selects_X9_sum : Cond.selects RX9 yX9_sum yX9_sum ∈ vT := vT_sel (List.mem_of_getElem? (i := 14) rfl) rfl
theorem k_selects_X9_findAliases : Cond.selects RX9 yX9_findAliases yX9_findAliases ∈ vT := vT_sel (List.mem_of_getElem? (i := 15) rfl) rfl
theorem k_selects_X9_isReady : Cond.selects RX9 yX9_isReady yX9_isReady ∈ vT := vT_sel (List.mem_of_getElem? (i := 16) rfl) rfl
theorem k_selects_X9_go : Cond.selects RX9 yX9_go yX9_go ∈ vT := vT_sel (List.mem_of_getElem? (i := 17) rfl) rfl
theorem k_selects_X9_fromTable : Cond.selects RX9 yX9_fromTable yX9_fromTable ∈ vT := vT_sel (List.mem_of_getElem? (i := 18) rfl) rfl
theorem k_selects_X9_fromTree : Cond.selects RX9 yX9_fromTree yX9_fromTree ∈ vT := vT_sel (List.mem_of_getElem? (i := 19) rfl) rfl
theorem k_selects_X9_nextBit : Cond.selects RX9 yX9_nextBit yX9_nextBit ∈ vT := vT_sel (List.mem_of_getElem? (i := 20) rfl) rfl
theorem k_selects_X9_uniform : Cond.selects RX9 yX9_uniform yX9_uniform ∈ vT := vT_sel (List.mem_of_getElem? (i := 21) rfl) rfl
theorem k_selects_X9_coin : Cond.selects RX9 yX9_coin yX9_coin ∈ vT := vT_sel (List.mem_of_getElem? (i := 22) rfl) rfl
theorem k_selects_X9_binomial : Cond.selects RX9 yX9_binomial yX9_binomial ∈ vT := vT_sel (List.mem_of_getElem? (i := 23) rfl) rfl
theorem k_selects_X9_geometric : Cond.selects RX9 yX9_geometric yX9_geometric ∈ vT := vT_sel (List.mem_of_getElem? (i := 24) rfl) rfl
theorem k_selects_X9_poisson : Cond.selects RX9 yX9_poisson yX9_poisson ∈ vT := vT_sel (List.mem_of_getElem? (i := 25) rfl) rfl
theorem k_selects_X9_once : Cond.selects RX9 yX9_once yX9_once ∈ vT := vT_sel (List.mem_of_getElem? (i := 26) rfl) rfl
theorem k_selects_X9_hyper : Cond.selects RX9 yX9_hyper yX9_hyper ∈ vT := vT_sel (List.mem_of_getElem? (i := 27) rfl) rfl
theorem k_selects_X9_bell : Cond.selects RX9 yX9_bell yX9_bell ∈ vT := vT_sel (List.mem_of_getElem? (i := 28) rfl) rfl
theorem k_selects_X9_exponential : Cond.selects RX9 yX9_exponential yX9_exponential ∈ vT := vT_sel (List.mem_of_getElem? (i := 29) rfl) rfl
theorem k_selects_X9_unitExponential : Cond.selects RX9 yX9_unitExponential yX9_unitExponential ∈ vT := vT_sel (List.mem_of_getElem? (i := 30) rfl) rfl
theorem k_selects_X9_makeItems : Cond.selects RX9 yX9_makeItems yX9_makeItems ∈ vT := vT_sel (List.mem_of_getElem? (i := 31) rfl) rfl
theorem k_selects_X9_shuffle : Cond.selects RX9 yX9_shuffle yX9_shuffle ∈ vT := vT_sel (List.mem_of_getElem? (i := 32) rfl) rfl
theorem k_selects_X9_subset : Cond.selects RX9 yX9_subset yX9_subset ∈ vT := vT_sel (List.mem_of_getElem? (i := 33) rfl) rfl
theorem k_selects_X9_path : Cond.selects RX9 yX9_path yX9_path ∈ vT := vT_sel (List.mem_of_getElem? (i := 34) rfl) rfl
theorem k_selects_X9_tree : Cond.selects RX9 yX9_tree yX9_tree ∈ vT := vT_sel (List.mem_of_getElem? (i := 35) rfl) rfl
theorem k_selects_X9_below : Cond.selects RX9 yX9_below yX9_below ∈ vT := vT_sel (List.mem_of_getElem? (i := 36) rfl) rfl
theorem k_selects_X9_stratum : Cond.selects RX9 yX9_stratum yX9_stratum ∈ vT := vT_sel (List.mem_of_getElem? (i := 37) rfl) rfl
theorem k_selects_X9_note : Cond.selects RX9 yX9_note yX9_note ∈ vT := vT_sel (List.mem_of_getElem? (i := 38) rfl) rfl
theorem k_selects_X9_sumOfItems : Cond.selects RX9 yX9_sumOfItems yX9_sumOfItems ∈ vT := vT_sel (List.mem_of_getElem? (i := 39) rfl) rfl
theorem k_selects_X9_canTry : Cond.selects RX9 yX9_canTry yX9_canTry ∈ vT := vT_sel (List.mem_of_getElem? (i := 40) rfl) rfl
theorem k_selects_X9_tryAll : Cond.selects RX9 yX9_tryAll yX9_tryAll ∈ vT := vT_sel (List.mem_of_getElem? (i := 41) rfl) rfl
theorem inV0 : ∀ w ∈ u_ws RX0 TX0 5, w ∈ vT := by
  show ∀ w ∈ [Cond.lays RX0 "SampleDesk$Dice" "words" "[I", Cond.lays RX0 "SampleDesk$Dice" "from" "I", Cond.lays RX0 "SampleDesk$Dice" "place" "I", Cond.lays RX0 "SampleDesk$Dice" "end" "I", Cond.lays RX0 "SampleDesk$Dice" "dry" "Z"], w ∈ vT
  exact List.forall_mem_cons.mpr ⟨k_lay_Dice_words, List.forall_mem_cons.mpr ⟨k_lay_Dice_from, List.forall_mem_cons.mpr ⟨k_lay_Dice_place, List.forall_mem_cons.mpr ⟨k_lay_Dice_end, List.forall_mem_cons.mpr ⟨k_lay_Dice_dry, fun _ h => absurd h List.not_mem_nil⟩⟩⟩⟩⟩
theorem inV1 : ∀ w ∈ u_ws RX1 TX1 1, w ∈ vT := by
  show ∀ w ∈ [Cond.laysFinal RX1 "SampleDesk$Laws" "dice" "LSampleDesk$Dice;"], w ∈ vT
  exact List.forall_mem_cons.mpr ⟨k_lay_Laws_dice, fun _ h => absurd h List.not_mem_nil⟩
theorem inV2 : ∀ w ∈ u_ws RX2 TX2 4, w ∈ vT := by
  show ∀ w ∈ [Cond.laysFinal RX2 "SampleDesk$Log" "cells" "[J", Cond.lays RX2 "SampleDesk$Log" "next" "I", Cond.lays RX2 "SampleDesk$Log" "size" "I", Cond.lays RX2 "SampleDesk$Log" "draws" "I"], w ∈ vT
  exact List.forall_mem_cons.mpr ⟨k_lay_Log_cells, List.forall_mem_cons.mpr ⟨k_lay_Log_next, List.forall_mem_cons.mpr ⟨k_lay_Log_size, List.forall_mem_cons.mpr ⟨k_lay_Log_draws, fun _ h => absurd h List.not_mem_nil⟩⟩⟩⟩
theorem inV3 : ∀ w ∈ u_ws RX3 TX3 4, w ∈ vT := by
  show ∀ w ∈ [Cond.lays RX3 "SampleDesk$Order" "kind" "I", Cond.lays RX3 "SampleDesk$Order" "a" "I", Cond.lays RX3 "SampleDesk$Order" "b" "I", Cond.lays RX3 "SampleDesk$Order" "c" "I"], w ∈ vT
  exact List.forall_mem_cons.mpr ⟨k_lay_Order_kind, List.forall_mem_cons.mpr ⟨k_lay_Order_a, List.forall_mem_cons.mpr ⟨k_lay_Order_b, List.forall_mem_cons.mpr ⟨k_lay_Order_c, fun _ h => absurd h List.not_mem_nil⟩⟩⟩⟩
theorem inV4 : ∀ w ∈ u_ws RX4 TX4 6, w ∈ vT := by
  show ∀ w ∈ [Cond.laysFinal RX4 "SampleDesk$Rows" "dice" "LSampleDesk$Dice;", Cond.laysFinal RX4 "SampleDesk$Rows" "steps" "[I", Cond.laysFinal RX4 "SampleDesk$Rows" "ups" "[I", Cond.laysFinal RX4 "SampleDesk$Rows" "pending" "[I", Cond.laysFinal RX4 "SampleDesk$Rows" "items" "[I", Cond.lays RX4 "SampleDesk$Rows" "size" "I"], w ∈ vT
  exact List.forall_mem_cons.mpr ⟨k_lay_Rows_dice, List.forall_mem_cons.mpr ⟨k_lay_Rows_steps, List.forall_mem_cons.mpr ⟨k_lay_Rows_ups, List.forall_mem_cons.mpr ⟨k_lay_Rows_pending, List.forall_mem_cons.mpr ⟨k_lay_Rows_items, List.forall_mem_cons.mpr ⟨k_lay_Rows_size, fun _ h => absurd h List.not_mem_nil⟩⟩⟩⟩⟩⟩
theorem inV5 : ∀ w ∈ u_ws RX5 TX5 4, w ∈ vT := by
  show ∀ w ∈ [Cond.laysFinal RX5 "SampleDesk$Sampler" "tables" "[LSampleDesk$Table;", Cond.laysFinal RX5 "SampleDesk$Sampler" "laws" "LSampleDesk$Laws;", Cond.laysFinal RX5 "SampleDesk$Sampler" "dice" "LSampleDesk$Dice;", Cond.laysFinal RX5 "SampleDesk$Sampler" "rows" "LSampleDesk$Rows;"], w ∈ vT
  exact List.forall_mem_cons.mpr ⟨k_lay_Sampler_tables, List.forall_mem_cons.mpr ⟨k_lay_Sampler_laws, List.forall_mem_cons.mpr ⟨k_lay_Sampler_dice, List.forall_mem_cons.mpr ⟨k_lay_Sampler_rows, fun _ h => absurd h List.not_mem_nil⟩⟩⟩⟩
theorem inV6 : ∀ w ∈ u_ws RX6 TX6 7, w ∈ vT := by
  show ∀ w ∈ [Cond.laysFinal RX6 "SampleDesk$Table" "weights" "[I", Cond.laysFinal RX6 "SampleDesk$Table" "smalls" "[I", Cond.laysFinal RX6 "SampleDesk$Table" "partners" "[I", Cond.laysFinal RX6 "SampleDesk$Table" "rests" "[J", Cond.lays RX6 "SampleDesk$Table" "method" "I", Cond.lays RX6 "SampleDesk$Table" "top" "I", Cond.lays RX6 "SampleDesk$Table" "sum" "J"], w ∈ vT
  exact List.forall_mem_cons.mpr ⟨k_lay_Table_weights, List.forall_mem_cons.mpr ⟨k_lay_Table_smalls, List.forall_mem_cons.mpr ⟨k_lay_Table_partners, List.forall_mem_cons.mpr ⟨k_lay_Table_rests, List.forall_mem_cons.mpr ⟨k_lay_Table_method, List.forall_mem_cons.mpr ⟨k_lay_Table_top, List.forall_mem_cons.mpr ⟨k_lay_Table_sum, fun _ h => absurd h List.not_mem_nil⟩⟩⟩⟩⟩⟩⟩
theorem inV7 : ∀ w ∈ u_ws RX7 TX7 3, w ∈ vT := by
  show ∀ w ∈ [Cond.laysFinal RX7 "SampleDesk$Tape" "words" "[I", Cond.lays RX7 "SampleDesk$Tape" "size" "I", Cond.lays RX7 "SampleDesk$Tape" "place" "I"], w ∈ vT
  exact List.forall_mem_cons.mpr ⟨k_lay_Tape_words, List.forall_mem_cons.mpr ⟨k_lay_Tape_size, List.forall_mem_cons.mpr ⟨k_lay_Tape_place, fun _ h => absurd h List.not_mem_nil⟩⟩⟩
theorem inV8 : ∀ w ∈ u_ws RX8 TX8 9, w ∈ vT := by
  show ∀ w ∈ [Cond.laysFinal RX8 "SampleDesk" "tape" "LSampleDesk$Tape;", Cond.laysFinal RX8 "SampleDesk" "tables" "[LSampleDesk$Table;", Cond.laysFinal RX8 "SampleDesk" "sampler" "LSampleDesk$Sampler;", Cond.laysFinal RX8 "SampleDesk" "order" "LSampleDesk$Order;", Cond.laysFinal RX8 "SampleDesk" "log" "LSampleDesk$Log;", Cond.laysFinal RX8 "SampleDesk" "string" "[I", Cond.laysFinal RX8 "SampleDesk" "items" "[I", Cond.lays RX8 "SampleDesk" "itemCount" "I", Cond.lays RX8 "SampleDesk" "latestBits" "I"], w ∈ vT
  exact List.forall_mem_cons.mpr ⟨k_lay_SampleDesk_tape, List.forall_mem_cons.mpr ⟨k_lay_SampleDesk_tables, List.forall_mem_cons.mpr ⟨k_lay_SampleDesk_sampler, List.forall_mem_cons.mpr ⟨k_lay_SampleDesk_order, List.forall_mem_cons.mpr ⟨k_lay_SampleDesk_log, List.forall_mem_cons.mpr ⟨k_lay_SampleDesk_string, List.forall_mem_cons.mpr ⟨k_lay_SampleDesk_items, List.forall_mem_cons.mpr ⟨k_lay_SampleDesk_itemCount, List.forall_mem_cons.mpr ⟨k_lay_SampleDesk_latestBits, fun _ h => absurd h List.not_mem_nil⟩⟩⟩⟩⟩⟩⟩⟩⟩
theorem inV9 : ∀ w ∈ u_ws RX9 TX9 26, w ∈ vT := by
  show ∀ w ∈ [Cond.lays RX9 "SampleDeskModel" "thrown" "I", Cond.lays RX9 "SampleDeskModel" "fed" "I", Cond.lays RX9 "SampleDeskModel" "place" "I", Cond.lays RX9 "SampleDeskModel" "draws" "I", Cond.lays RX9 "SampleDeskModel" "latest" "I", Cond.laysFinal RX9 "SampleDeskModel" "tape" "[I", Cond.laysFinal RX9 "SampleDeskModel" "weights" "[J", Cond.laysFinal RX9 "SampleDeskModel" "built" "[I", Cond.laysFinal RX9 "SampleDeskModel" "limits" "[J", Cond.laysFinal RX9 "SampleDeskModel" "aliases" "[I", Cond.laysFinal RX9 "SampleDeskModel" "aliased" "[I", Cond.laysFinal RX9 "SampleDeskModel" "shares" "[J", Cond.laysFinal RX9 "SampleDeskModel" "row" "[I", Cond.lays RX9 "SampleDeskModel" "items" "I", Cond.laysFinal RX9 "SampleDeskModel" "item" "[I", Cond.lays RX9 "SampleDeskModel" "tries" "Z", Cond.lays RX9 "SampleDeskModel" "string" "I", Cond.lays RX9 "SampleDeskModel" "length" "I", Cond.lays RX9 "SampleDeskModel" "at" "I", Cond.lays RX9 "SampleDeskModel" "read" "I", Cond.lays RX9 "SampleDeskModel" "ended" "Z", Cond.lays RX9 "SampleDeskModel" "made" "I", Cond.laysFinal RX9 "SampleDeskModel" "work" "[I", Cond.lays RX9 "SampleDeskModel" "entries" "I", Cond.laysFinal RX9 "SampleDeskModel" "journal" "[I", Cond.laysFinal RX9 "SampleDeskModel" "answers" "[J"], w ∈ vT
  exact List.forall_mem_cons.mpr ⟨k_lay_SampleDeskModel_thrown, List.forall_mem_cons.mpr ⟨k_lay_SampleDeskModel_fed, List.forall_mem_cons.mpr ⟨k_lay_SampleDeskModel_place, List.forall_mem_cons.mpr ⟨k_lay_SampleDeskModel_draws, List.forall_mem_cons.mpr ⟨k_lay_SampleDeskModel_latest, List.forall_mem_cons.mpr ⟨k_lay_SampleDeskModel_tape, List.forall_mem_cons.mpr ⟨k_lay_SampleDeskModel_weights, List.forall_mem_cons.mpr ⟨k_lay_SampleDeskModel_built, List.forall_mem_cons.mpr ⟨k_lay_SampleDeskModel_limits, List.forall_mem_cons.mpr ⟨k_lay_SampleDeskModel_aliases, List.forall_mem_cons.mpr ⟨k_lay_SampleDeskModel_aliased, List.forall_mem_cons.mpr ⟨k_lay_SampleDeskModel_shares, List.forall_mem_cons.mpr ⟨k_lay_SampleDeskModel_row, List.forall_mem_cons.mpr ⟨k_lay_SampleDeskModel_items, List.forall_mem_cons.mpr ⟨k_lay_SampleDeskModel_item, List.forall_mem_cons.mpr ⟨k_lay_SampleDeskModel_tries, List.forall_mem_cons.mpr ⟨k_lay_SampleDeskModel_string, List.forall_mem_cons.mpr ⟨k_lay_SampleDeskModel_length, List.forall_mem_cons.mpr ⟨k_lay_SampleDeskModel_at, List.forall_mem_cons.mpr ⟨k_lay_SampleDeskModel_read, List.forall_mem_cons.mpr ⟨k_lay_SampleDeskModel_ended, List.forall_mem_cons.mpr ⟨k_lay_SampleDeskModel_made, List.forall_mem_cons.mpr ⟨k_lay_SampleDeskModel_work, List.forall_mem_cons.mpr ⟨k_lay_SampleDeskModel_entries, List.forall_mem_cons.mpr ⟨k_lay_SampleDeskModel_journal, List.forall_mem_cons.mpr ⟨k_lay_SampleDeskModel_answers, fun _ h => absurd h List.not_mem_nil⟩⟩⟩⟩⟩⟩⟩⟩⟩⟩⟩⟩⟩⟩⟩⟩⟩⟩⟩⟩⟩⟩⟩⟩⟩⟩
