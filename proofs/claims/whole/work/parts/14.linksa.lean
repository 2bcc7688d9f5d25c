theorem w_ini_RL : Cond.initialized RL ∈ gtbl := gmem (List.mem_of_getElem? (i := 57) (by decide +kernel)) (by decide +kernel)
theorem w_ini_RX6 : Cond.initialized RX6 ∈ gtbl := gmem (List.mem_of_getElem? (i := 58) (by decide +kernel)) (by decide +kernel)
theorem w_ini_RX5 : Cond.initialized RX5 ∈ gtbl := gmem (List.mem_of_getElem? (i := 59) (by decide +kernel)) (by decide +kernel)
theorem w_ini_RX0 : Cond.initialized RX0 ∈ gtbl := gmem (List.mem_of_getElem? (i := 60) (by decide +kernel)) (by decide +kernel)
theorem w_ini_RX3 : Cond.initialized RX3 ∈ gtbl := gmem (List.mem_of_getElem? (i := 61) (by decide +kernel)) (by decide +kernel)
theorem w_ini_RX1 : Cond.initialized RX1 ∈ gtbl := gmem (List.mem_of_getElem? (i := 62) (by decide +kernel)) (by decide +kernel)
theorem w_ini_RX4 : Cond.initialized RX4 ∈ gtbl := gmem (List.mem_of_getElem? (i := 63) (by decide +kernel)) (by decide +kernel)
theorem w_ini_RX2 : Cond.initialized RX2 ∈ gtbl := gmem (List.mem_of_getElem? (i := 64) (by decide +kernel)) (by decide +kernel)
theorem w_ini_RX7 : Cond.initialized RX7 ∈ gtbl := gmem (List.mem_of_getElem? (i := 65) (by decide +kernel)) (by decide +kernel)
theorem w_ini_RJ7 : Cond.initialized RJ7 ∈ gtbl := gmem (List.mem_of_getElem? (i := 66) (by decide +kernel)) (by decide +kernel)
theorem w_ini_RJ6 : Cond.initialized RJ6 ∈ gtbl := gmem (List.mem_of_getElem? (i := 67) (by decide +kernel)) (by decide +kernel)
theorem w_ini_RJ10 : Cond.initialized RJ10 ∈ gtbl := gmem (List.mem_of_getElem? (i := 68) (by decide +kernel)) (by decide +kernel)
theorem w_ini_System : Cond.initialized "java/lang/System" ∈ gtbl := gmem (List.mem_of_getElem? (i := 68) (by decide +kernel)) (by decide +kernel)
theorem w_ini_RJ9 : Cond.initialized RJ9 ∈ gtbl := gmem (List.mem_of_getElem? (i := 69) (by decide +kernel)) (by decide +kernel)
theorem k_L_7 : Cond.classLink RL 7 RX6 ∈ gtbl := gmem (List.mem_of_getElem? (i := 70) (by decide +kernel)) (by decide +kernel)
theorem w_new_6 : Cond.instantiable (cNm 6) (cNf 6) ∈ gtbl := gmem (List.mem_of_getElem? (i := 71) (by decide +kernel)) (by decide +kernel)
theorem l_L_9 : Cond.methodLink RL 9 yX6_init ∈ gtbl := gmem (List.mem_of_getElem? (i := 72) (by decide +kernel)) (by decide +kernel)
theorem w_inst_X6_init : Cond.instanceMethod yX6_init ∈ gtbl := gmem (List.mem_of_getElem? (i := 73) (by decide +kernel)) (by decide +kernel)
theorem w_code_X6_init : Cond.code yX6_init cX6_init 2 none ∈ gtbl := gmem (List.mem_of_getElem? (i := 74) (by decide +kernel)) (by decide +kernel)
theorem l_X6_1 : Cond.methodLink RX6 1 objectInit ∈ gtbl := gmem (List.mem_of_getElem? (i := 75) (by decide +kernel)) (by decide +kernel)
theorem w_inst_obj : Cond.instanceMethod objectInit ∈ gtbl := gmem (List.mem_of_getElem? (i := 76) (by decide +kernel)) (by decide +kernel)
theorem w_code_obj : Cond.code objectInit ⟨#[0xb1]⟩ 1 none ∈ gtbl := gmem (List.mem_of_getElem? (i := 77) (by decide +kernel)) (by decide +kernel)
theorem k_X6_7 : Cond.classLink RX6 7 RX5 ∈ gtbl := gmem (List.mem_of_getElem? (i := 78) (by decide +kernel)) (by decide +kernel)
theorem w_new_5 : Cond.instantiable (cNm 5) (cNf 5) ∈ gtbl := gmem (List.mem_of_getElem? (i := 79) (by decide +kernel)) (by decide +kernel)
theorem l_X6_9 : Cond.methodLinkNest RX6 9 yX5_init "TruePies" ∈ ntbl := nmem (List.mem_of_getElem? (i := 80) (by decide +kernel)) (by decide +kernel)
theorem w_inst_X5_init : Cond.instanceMethod yX5_init ∈ gtbl := gmem (List.mem_of_getElem? (i := 81) (by decide +kernel)) (by decide +kernel)
theorem w_code_X5_init : Cond.code yX5_init cX5_init 1 none ∈ gtbl := gmem (List.mem_of_getElem? (i := 82) (by decide +kernel)) (by decide +kernel)
theorem l_X5_3 : Cond.methodLink RX5 3 objectInit ∈ gtbl := gmem (List.mem_of_getElem? (i := 83) (by decide +kernel)) (by decide +kernel)
theorem f_X5_9 : FL RX5 9 5 0 := ⟨by decide, by decide, gmem (List.mem_of_getElem? (i := 84) (by decide +kernel)) (by decide +kernel)⟩
theorem f_X6_70 : FL RX6 70 5 0 := ⟨by decide, by decide, gmem (List.mem_of_getElem? (i := 85) (by decide +kernel)) (by decide +kernel)⟩
theorem f_X5_15 : FL RX5 15 5 1 := ⟨by decide, by decide, gmem (List.mem_of_getElem? (i := 86) (by decide +kernel)) (by decide +kernel)⟩
theorem f_X6_66 : FL RX6 66 5 1 := ⟨by decide, by decide, gmem (List.mem_of_getElem? (i := 87) (by decide +kernel)) (by decide +kernel)⟩
theorem f_X5_19 : FL RX5 19 5 2 := ⟨by decide, by decide, gmem (List.mem_of_getElem? (i := 88) (by decide +kernel)) (by decide +kernel)⟩
theorem f_X5_22 : FL RX5 22 5 3 := ⟨by decide, by decide, gmem (List.mem_of_getElem? (i := 89) (by decide +kernel)) (by decide +kernel)⟩
theorem f_X5_25 : FL RX5 25 5 4 := ⟨by decide, by decide, gmem (List.mem_of_getElem? (i := 90) (by decide +kernel)) (by decide +kernel)⟩
theorem f_X5_28 : FL RX5 28 5 5 := ⟨by decide, by decide, gmem (List.mem_of_getElem? (i := 91) (by decide +kernel)) (by decide +kernel)⟩
theorem w_arr_int : Cond.arrayClass .int ∈ gtbl := gmem (List.mem_of_getElem? (i := 105) (by decide +kernel)) (by decide +kernel)
theorem k_X6_16 : Cond.classLink RX6 16 RX0 ∈ gtbl := gmem (List.mem_of_getElem? (i := 106) (by decide +kernel)) (by decide +kernel)
theorem w_new_0 : Cond.instantiable (cNm 0) (cNf 0) ∈ gtbl := gmem (List.mem_of_getElem? (i := 107) (by decide +kernel)) (by decide +kernel)
theorem l_X6_18 : Cond.methodLinkNest RX6 18 yX0_init "TruePies" ∈ ntbl := nmem (List.mem_of_getElem? (i := 108) (by decide +kernel)) (by decide +kernel)
theorem w_inst_X0_init : Cond.instanceMethod yX0_init ∈ gtbl := gmem (List.mem_of_getElem? (i := 109) (by decide +kernel)) (by decide +kernel)
theorem w_code_X0_init : Cond.code yX0_init cX0_init 1 none ∈ gtbl := gmem (List.mem_of_getElem? (i := 110) (by decide +kernel)) (by decide +kernel)
theorem l_X0_3 : Cond.methodLink RX0 3 objectInit ∈ gtbl := gmem (List.mem_of_getElem? (i := 111) (by decide +kernel)) (by decide +kernel)
theorem f_X0_9 : FL RX0 9 0 0 := ⟨by decide, by decide, gmem (List.mem_of_getElem? (i := 112) (by decide +kernel)) (by decide +kernel)⟩
theorem f_X5_59 : FL RX5 59 0 0 := ⟨by decide, by decide, gmem (List.mem_of_getElem? (i := 113) (by decide +kernel)) (by decide +kernel)⟩
theorem f_X6_91 : FL RX6 91 0 0 := ⟨by decide, by decide, gmem (List.mem_of_getElem? (i := 114) (by decide +kernel)) (by decide +kernel)⟩
theorem f_X0_15 : FL RX0 15 0 1 := ⟨by decide, by decide, gmem (List.mem_of_getElem? (i := 115) (by decide +kernel)) (by decide +kernel)⟩
theorem f_X5_69 : FL RX5 69 0 1 := ⟨by decide, by decide, gmem (List.mem_of_getElem? (i := 116) (by decide +kernel)) (by decide +kernel)⟩
theorem f_X6_101 : FL RX6 101 0 1 := ⟨by decide, by decide, gmem (List.mem_of_getElem? (i := 117) (by decide +kernel)) (by decide +kernel)⟩
theorem f_X0_18 : FL RX0 18 0 2 := ⟨by decide, by decide, gmem (List.mem_of_getElem? (i := 118) (by decide +kernel)) (by decide +kernel)⟩
theorem f_X5_86 : FL RX5 86 0 2 := ⟨by decide, by decide, gmem (List.mem_of_getElem? (i := 119) (by decide +kernel)) (by decide +kernel)⟩
theorem f_X0_21 : FL RX0 21 0 3 := ⟨by decide, by decide, gmem (List.mem_of_getElem? (i := 120) (by decide +kernel)) (by decide +kernel)⟩
theorem f_X5_99 : FL RX5 99 0 3 := ⟨by decide, by decide, gmem (List.mem_of_getElem? (i := 121) (by decide +kernel)) (by decide +kernel)⟩
theorem f_X0_24 : FL RX0 24 0 4 := ⟨by decide, by decide, gmem (List.mem_of_getElem? (i := 122) (by decide +kernel)) (by decide +kernel)⟩
theorem f_X5_102 : FL RX5 102 0 4 := ⟨by decide, by decide, gmem (List.mem_of_getElem? (i := 123) (by decide +kernel)) (by decide +kernel)⟩
theorem f_X0_27 : FL RX0 27 0 5 := ⟨by decide, by decide, gmem (List.mem_of_getElem? (i := 124) (by decide +kernel)) (by decide +kernel)⟩
theorem f_X5_62 : FL RX5 62 0 5 := ⟨by decide, by decide, gmem (List.mem_of_getElem? (i := 125) (by decide +kernel)) (by decide +kernel)⟩
theorem f_X6_151 : FL RX6 151 0 5 := ⟨by decide, by decide, gmem (List.mem_of_getElem? (i := 126) (by decide +kernel)) (by decide +kernel)⟩
theorem f_X0_31 : FL RX0 31 0 6 := ⟨by decide, by decide, gmem (List.mem_of_getElem? (i := 127) (by decide +kernel)) (by decide +kernel)⟩
theorem f_X5_72 : FL RX5 72 0 6 := ⟨by decide, by decide, gmem (List.mem_of_getElem? (i := 128) (by decide +kernel)) (by decide +kernel)⟩
theorem f_X6_264 : FL RX6 264 0 6 := ⟨by decide, by decide, gmem (List.mem_of_getElem? (i := 129) (by decide +kernel)) (by decide +kernel)⟩
theorem f_X0_34 : FL RX0 34 0 7 := ⟨by decide, by decide, gmem (List.mem_of_getElem? (i := 130) (by decide +kernel)) (by decide +kernel)⟩
theorem f_X5_83 : FL RX5 83 0 7 := ⟨by decide, by decide, gmem (List.mem_of_getElem? (i := 131) (by decide +kernel)) (by decide +kernel)⟩
theorem f_X6_119 : FL RX6 119 0 7 := ⟨by decide, by decide, gmem (List.mem_of_getElem? (i := 132) (by decide +kernel)) (by decide +kernel)⟩
theorem f_X0_37 : FL RX0 37 0 8 := ⟨by decide, by decide, gmem (List.mem_of_getElem? (i := 133) (by decide +kernel)) (by decide +kernel)⟩
theorem f_X5_89 : FL RX5 89 0 8 := ⟨by decide, by decide, gmem (List.mem_of_getElem? (i := 134) (by decide +kernel)) (by decide +kernel)⟩
theorem f_X6_267 : FL RX6 267 0 8 := ⟨by decide, by decide, gmem (List.mem_of_getElem? (i := 135) (by decide +kernel)) (by decide +kernel)⟩
theorem f_X0_40 : FL RX0 40 0 9 := ⟨by decide, by decide, gmem (List.mem_of_getElem? (i := 136) (by decide +kernel)) (by decide +kernel)⟩
theorem f_X5_105 : FL RX5 105 0 9 := ⟨by decide, by decide, gmem (List.mem_of_getElem? (i := 137) (by decide +kernel)) (by decide +kernel)⟩
theorem f_X6_161 : FL RX6 161 0 9 := ⟨by decide, by decide, gmem (List.mem_of_getElem? (i := 138) (by decide +kernel)) (by decide +kernel)⟩
theorem k_X6_26 : Cond.classLink RX6 26 RX3 ∈ gtbl := gmem (List.mem_of_getElem? (i := 160) (by decide +kernel)) (by decide +kernel)
theorem w_new_3 : Cond.instantiable (cNm 3) (cNf 3) ∈ gtbl := gmem (List.mem_of_getElem? (i := 161) (by decide +kernel)) (by decide +kernel)
theorem l_X6_28 : Cond.methodLinkNest RX6 28 yX3_init "TruePies" ∈ ntbl := nmem (List.mem_of_getElem? (i := 162) (by decide +kernel)) (by decide +kernel)
theorem w_inst_X3_init : Cond.instanceMethod yX3_init ∈ gtbl := gmem (List.mem_of_getElem? (i := 163) (by decide +kernel)) (by decide +kernel)
theorem w_code_X3_init : Cond.code yX3_init cX3_init 1 none ∈ gtbl := gmem (List.mem_of_getElem? (i := 164) (by decide +kernel)) (by decide +kernel)
theorem l_X3_3 : Cond.methodLink RX3 3 objectInit ∈ gtbl := gmem (List.mem_of_getElem? (i := 165) (by decide +kernel)) (by decide +kernel)
theorem f_X3_9 : FL RX3 9 3 0 := ⟨by decide, by decide, gmem (List.mem_of_getElem? (i := 166) (by decide +kernel)) (by decide +kernel)⟩
theorem f_X6_110 : FL RX6 110 3 0 := ⟨by decide, by decide, gmem (List.mem_of_getElem? (i := 167) (by decide +kernel)) (by decide +kernel)⟩
theorem f_X3_15 : FL RX3 15 3 1 := ⟨by decide, by decide, gmem (List.mem_of_getElem? (i := 168) (by decide +kernel)) (by decide +kernel)⟩
theorem f_X2_38 : FL RX2 38 3 1 := ⟨by decide, by decide, gmem (List.mem_of_getElem? (i := 169) (by decide +kernel)) (by decide +kernel)⟩
theorem f_X6_129 : FL RX6 129 3 1 := ⟨by decide, by decide, gmem (List.mem_of_getElem? (i := 170) (by decide +kernel)) (by decide +kernel)⟩
theorem f_X3_18 : FL RX3 18 3 2 := ⟨by decide, by decide, gmem (List.mem_of_getElem? (i := 171) (by decide +kernel)) (by decide +kernel)⟩
theorem f_X6_132 : FL RX6 132 3 2 := ⟨by decide, by decide, gmem (List.mem_of_getElem? (i := 172) (by decide +kernel)) (by decide +kernel)⟩
theorem f_X3_21 : FL RX3 21 3 3 := ⟨by decide, by decide, gmem (List.mem_of_getElem? (i := 173) (by decide +kernel)) (by decide +kernel)⟩
theorem f_X6_104 : FL RX6 104 3 3 := ⟨by decide, by decide, gmem (List.mem_of_getElem? (i := 174) (by decide +kernel)) (by decide +kernel)⟩
theorem f_X3_25 : FL RX3 25 3 4 := ⟨by decide, by decide, gmem (List.mem_of_getElem? (i := 175) (by decide +kernel)) (by decide +kernel)⟩
theorem f_X6_107 : FL RX6 107 3 4 := ⟨by decide, by decide, gmem (List.mem_of_getElem? (i := 176) (by decide +kernel)) (by decide +kernel)⟩
theorem f_X3_28 : FL RX3 28 3 5 := ⟨by decide, by decide, gmem (List.mem_of_getElem? (i := 177) (by decide +kernel)) (by decide +kernel)⟩
theorem f_X6_113 : FL RX6 113 3 5 := ⟨by decide, by decide, gmem (List.mem_of_getElem? (i := 178) (by decide +kernel)) (by decide +kernel)⟩
theorem k_X6_33 : Cond.classLink RX6 33 RX1 ∈ gtbl := gmem (List.mem_of_getElem? (i := 192) (by decide +kernel)) (by decide +kernel)
theorem w_new_1 : Cond.instantiable (cNm 1) (cNf 1) ∈ gtbl := gmem (List.mem_of_getElem? (i := 193) (by decide +kernel)) (by decide +kernel)
theorem l_X6_35 : Cond.methodLink RX6 35 yX1_init ∈ gtbl := gmem (List.mem_of_getElem? (i := 194) (by decide +kernel)) (by decide +kernel)
theorem w_inst_X1_init : Cond.instanceMethod yX1_init ∈ gtbl := gmem (List.mem_of_getElem? (i := 195) (by decide +kernel)) (by decide +kernel)
theorem w_code_X1_init : Cond.code yX1_init cX1_init 2 none ∈ gtbl := gmem (List.mem_of_getElem? (i := 196) (by decide +kernel)) (by decide +kernel)
theorem l_X1_3 : Cond.methodLink RX1 3 objectInit ∈ gtbl := gmem (List.mem_of_getElem? (i := 197) (by decide +kernel)) (by decide +kernel)
theorem k_X1_9 : Cond.classLink RX1 9 RX3 ∈ gtbl := gmem (List.mem_of_getElem? (i := 198) (by decide +kernel)) (by decide +kernel)
theorem l_X1_24 : Cond.methodLinkNest RX1 24 yX3_init "TruePies" ∈ ntbl := nmem (List.mem_of_getElem? (i := 200) (by decide +kernel)) (by decide +kernel)
theorem f_X1_11 : FL RX1 11 1 0 := ⟨by decide, by decide, gmem (List.mem_of_getElem? (i := 201) (by decide +kernel)) (by decide +kernel)⟩
theorem f_X1_17 : FL RX1 17 1 1 := ⟨by decide, by decide, gmem (List.mem_of_getElem? (i := 202) (by decide +kernel)) (by decide +kernel)⟩
theorem f_X6_81 : FL RX6 81 1 1 := ⟨by decide, by decide, gmem (List.mem_of_getElem? (i := 203) (by decide +kernel)) (by decide +kernel)⟩
theorem f_X1_21 : FL RX1 21 1 2 := ⟨by decide, by decide, gmem (List.mem_of_getElem? (i := 204) (by decide +kernel)) (by decide +kernel)⟩
theorem k_X6_48 : Cond.classLink RX6 48 RX4 ∈ gtbl := gmem (List.mem_of_getElem? (i := 212) (by decide +kernel)) (by decide +kernel)
theorem w_new_4 : Cond.instantiable (cNm 4) (cNf 4) ∈ gtbl := gmem (List.mem_of_getElem? (i := 213) (by decide +kernel)) (by decide +kernel)
theorem l_X6_50 : Cond.methodLinkNest RX6 50 yX4_init "TruePies" ∈ ntbl := nmem (List.mem_of_getElem? (i := 214) (by decide +kernel)) (by decide +kernel)
theorem w_inst_X4_init : Cond.instanceMethod yX4_init ∈ gtbl := gmem (List.mem_of_getElem? (i := 215) (by decide +kernel)) (by decide +kernel)
theorem w_code_X4_init : Cond.code yX4_init cX4_init 1 none ∈ gtbl := gmem (List.mem_of_getElem? (i := 216) (by decide +kernel)) (by decide +kernel)
theorem l_X4_3 : Cond.methodLink RX4 3 objectInit ∈ gtbl := gmem (List.mem_of_getElem? (i := 217) (by decide +kernel)) (by decide +kernel)
theorem f_X4_9 : FL RX4 9 4 0 := ⟨by decide, by decide, gmem (List.mem_of_getElem? (i := 218) (by decide +kernel)) (by decide +kernel)⟩
theorem f_X4_15 : FL RX4 15 4 1 := ⟨by decide, by decide, gmem (List.mem_of_getElem? (i := 219) (by decide +kernel)) (by decide +kernel)⟩
theorem f_X4_18 : FL RX4 18 4 2 := ⟨by decide, by decide, gmem (List.mem_of_getElem? (i := 220) (by decide +kernel)) (by decide +kernel)⟩
theorem f_X4_21 : FL RX4 21 4 3 := ⟨by decide, by decide, gmem (List.mem_of_getElem? (i := 221) (by decide +kernel)) (by decide +kernel)⟩
theorem f_X6_84 : FL RX6 84 4 3 := ⟨by decide, by decide, gmem (List.mem_of_getElem? (i := 222) (by decide +kernel)) (by decide +kernel)⟩
theorem w_arr_boolean : Cond.arrayClass .boolean ∈ gtbl := gmem (List.mem_of_getElem? (i := 232) (by decide +kernel)) (by decide +kernel)
theorem k_X6_55 : Cond.classLink RX6 55 RX2 ∈ gtbl := gmem (List.mem_of_getElem? (i := 233) (by decide +kernel)) (by decide +kernel)
theorem w_new_2 : Cond.instantiable (cNm 2) (cNf 2) ∈ gtbl := gmem (List.mem_of_getElem? (i := 234) (by decide +kernel)) (by decide +kernel)
theorem l_X6_57 : Cond.methodLinkNest RX6 57 yX2_init "TruePies" ∈ ntbl := nmem (List.mem_of_getElem? (i := 235) (by decide +kernel)) (by decide +kernel)
theorem w_inst_X2_init : Cond.instanceMethod yX2_init ∈ gtbl := gmem (List.mem_of_getElem? (i := 236) (by decide +kernel)) (by decide +kernel)
theorem w_code_X2_init : Cond.code yX2_init cX2_init 1 none ∈ gtbl := gmem (List.mem_of_getElem? (i := 237) (by decide +kernel)) (by decide +kernel)
theorem l_X2_3 : Cond.methodLink RX2 3 objectInit ∈ gtbl := gmem (List.mem_of_getElem? (i := 238) (by decide +kernel)) (by decide +kernel)
theorem f_X2_9 : FL RX2 9 2 0 := ⟨by decide, by decide, gmem (List.mem_of_getElem? (i := 239) (by decide +kernel)) (by decide +kernel)⟩
theorem f_X6_190 : FL RX6 190 2 0 := ⟨by decide, by decide, gmem (List.mem_of_getElem? (i := 240) (by decide +kernel)) (by decide +kernel)⟩
theorem f_X6_10 : FL RX6 10 6 0 := ⟨by decide, by decide, gmem (List.mem_of_getElem? (i := 244) (by decide +kernel)) (by decide +kernel)⟩
theorem f_X6_19 : FL RX6 19 6 1 := ⟨by decide, by decide, gmem (List.mem_of_getElem? (i := 245) (by decide +kernel)) (by decide +kernel)⟩
theorem f_X6_23 : FL RX6 23 6 2 := ⟨by decide, by decide, gmem (List.mem_of_getElem? (i := 246) (by decide +kernel)) (by decide +kernel)⟩
theorem f_X6_29 : FL RX6 29 6 3 := ⟨by decide, by decide, gmem (List.mem_of_getElem? (i := 247) (by decide +kernel)) (by decide +kernel)⟩
theorem f_X6_36 : FL RX6 36 6 4 := ⟨by decide, by decide, gmem (List.mem_of_getElem? (i := 248) (by decide +kernel)) (by decide +kernel)⟩
theorem f_X6_40 : FL RX6 40 6 5 := ⟨by decide, by decide, gmem (List.mem_of_getElem? (i := 249) (by decide +kernel)) (by decide +kernel)⟩
theorem f_X6_44 : FL RX6 44 6 6 := ⟨by decide, by decide, gmem (List.mem_of_getElem? (i := 250) (by decide +kernel)) (by decide +kernel)⟩
theorem f_X6_51 : FL RX6 51 6 7 := ⟨by decide, by decide, gmem (List.mem_of_getElem? (i := 251) (by decide +kernel)) (by decide +kernel)⟩
theorem f_X6_58 : FL RX6 58 6 8 := ⟨by decide, by decide, gmem (List.mem_of_getElem? (i := 252) (by decide +kernel)) (by decide +kernel)⟩
theorem f_X6_62 : FL RX6 62 6 9 := ⟨by decide, by decide, gmem (List.mem_of_getElem? (i := 253) (by decide +kernel)) (by decide +kernel)⟩
theorem l_L_13 : Cond.methodLink RL 13 yX6_type ∈ gtbl := gmem (List.mem_of_getElem? (i := 275) (by decide +kernel)) (by decide +kernel)
theorem w_inst_X6_type : Cond.instanceMethod yX6_type ∈ gtbl := gmem (List.mem_of_getElem? (i := 276) (by decide +kernel)) (by decide +kernel)
theorem w_sel_X6_type : Cond.selects RX6 yX6_type yX6_type ∈ gtbl := gmem (List.mem_of_getElem? (i := 277) (by decide +kernel)) (by decide +kernel)
theorem w_code_X6_type : Cond.code yX6_type cX6_type 2 (some .int) ∈ gtbl := gmem (List.mem_of_getElem? (i := 278) (by decide +kernel)) (by decide +kernel)
theorem l_L_18 : Cond.methodLink RL 18 yX6_clear ∈ gtbl := gmem (List.mem_of_getElem? (i := 279) (by decide +kernel)) (by decide +kernel)
theorem w_inst_X6_clear : Cond.instanceMethod yX6_clear ∈ gtbl := gmem (List.mem_of_getElem? (i := 280) (by decide +kernel)) (by decide +kernel)
theorem w_sel_X6_clear : Cond.selects RX6 yX6_clear yX6_clear ∈ gtbl := gmem (List.mem_of_getElem? (i := 281) (by decide +kernel)) (by decide +kernel)
theorem w_code_X6_clear : Cond.code yX6_clear cX6_clear 2 (some .int) ∈ gtbl := gmem (List.mem_of_getElem? (i := 282) (by decide +kernel)) (by decide +kernel)
theorem l_L_23 : Cond.methodLink RL 23 yX6_court ∈ gtbl := gmem (List.mem_of_getElem? (i := 283) (by decide +kernel)) (by decide +kernel)
theorem w_inst_X6_court : Cond.instanceMethod yX6_court ∈ gtbl := gmem (List.mem_of_getElem? (i := 284) (by decide +kernel)) (by decide +kernel)
theorem w_sel_X6_court : Cond.selects RX6 yX6_court yX6_court ∈ gtbl := gmem (List.mem_of_getElem? (i := 285) (by decide +kernel)) (by decide +kernel)
theorem w_code_X6_court : Cond.code yX6_court cX6_court 4 (some .int) ∈ gtbl := gmem (List.mem_of_getElem? (i := 286) (by decide +kernel)) (by decide +kernel)
theorem l_X6_74 : Cond.methodLink RX6 74 yX5_readInto ∈ gtbl := gmem (List.mem_of_getElem? (i := 287) (by decide +kernel)) (by decide +kernel)
theorem w_inst_X5_readInto : Cond.instanceMethod yX5_readInto ∈ gtbl := gmem (List.mem_of_getElem? (i := 288) (by decide +kernel)) (by decide +kernel)
theorem w_sel_X5_readInto : Cond.selects RX5 yX5_readInto yX5_readInto ∈ gtbl := gmem (List.mem_of_getElem? (i := 289) (by decide +kernel)) (by decide +kernel)
theorem w_code_X5_readInto : Cond.code yX5_readInto cX5_readInto 3 (some .int) ∈ gtbl := gmem (List.mem_of_getElem? (i := 290) (by decide +kernel)) (by decide +kernel)
theorem l_X5_32 : Cond.methodLink RX5 32 yX0_startAnew ∈ gtbl := gmem (List.mem_of_getElem? (i := 291) (by decide +kernel)) (by decide +kernel)
theorem w_inst_X0_startAnew : Cond.instanceMethod yX0_startAnew ∈ gtbl := gmem (List.mem_of_getElem? (i := 292) (by decide +kernel)) (by decide +kernel)
theorem w_sel_X0_startAnew : Cond.selects RX0 yX0_startAnew yX0_startAnew ∈ gtbl := gmem (List.mem_of_getElem? (i := 293) (by decide +kernel)) (by decide +kernel)
theorem w_code_X0_startAnew : Cond.code yX0_startAnew cX0_startAnew 1 none ∈ gtbl := gmem (List.mem_of_getElem? (i := 294) (by decide +kernel)) (by decide +kernel)
theorem l_X5_37 : Cond.methodLink RX5 37 yX5_step ∈ gtbl := gmem (List.mem_of_getElem? (i := 295) (by decide +kernel)) (by decide +kernel)
theorem w_inst_X5_step : Cond.instanceMethod yX5_step ∈ gtbl := gmem (List.mem_of_getElem? (i := 297) (by decide +kernel)) (by decide +kernel)
theorem w_code_X5_step : Cond.code yX5_step cX5_step 1 none ∈ gtbl := gmem (List.mem_of_getElem? (i := 298) (by decide +kernel)) (by decide +kernel)
theorem l_X5_111 : Cond.methodLink RX5 111 yX5_isLetter ∈ gtbl := gmem (List.mem_of_getElem? (i := 299) (by decide +kernel)) (by decide +kernel)
theorem w_inst_X5_isLetter : Cond.instanceMethod yX5_isLetter ∈ gtbl := gmem (List.mem_of_getElem? (i := 301) (by decide +kernel)) (by decide +kernel)
theorem w_code_X5_isLetter : Cond.code yX5_isLetter cX5_isLetter 2 (some .boolean) ∈ gtbl := gmem (List.mem_of_getElem? (i := 302) (by decide +kernel)) (by decide +kernel)
theorem l_X5_114 : Cond.methodLink RX5 114 yX5_takeWord ∈ gtbl := gmem (List.mem_of_getElem? (i := 303) (by decide +kernel)) (by decide +kernel)
theorem w_inst_X5_takeWord : Cond.instanceMethod yX5_takeWord ∈ gtbl := gmem (List.mem_of_getElem? (i := 305) (by decide +kernel)) (by decide +kernel)
theorem w_code_X5_takeWord : Cond.code yX5_takeWord cX5_takeWord 1 none ∈ gtbl := gmem (List.mem_of_getElem? (i := 306) (by decide +kernel)) (by decide +kernel)
theorem l_X5_117 : Cond.methodLink RX5 117 yX5_isDigit ∈ gtbl := gmem (List.mem_of_getElem? (i := 307) (by decide +kernel)) (by decide +kernel)
theorem w_inst_X5_isDigit : Cond.instanceMethod yX5_isDigit ∈ gtbl := gmem (List.mem_of_getElem? (i := 309) (by decide +kernel)) (by decide +kernel)
theorem w_code_X5_isDigit : Cond.code yX5_isDigit cX5_isDigit 2 (some .boolean) ∈ gtbl := gmem (List.mem_of_getElem? (i := 310) (by decide +kernel)) (by decide +kernel)
theorem l_X5_120 : Cond.methodLink RX5 120 yX5_takeNumber ∈ gtbl := gmem (List.mem_of_getElem? (i := 311) (by decide +kernel)) (by decide +kernel)
theorem w_inst_X5_takeNumber : Cond.instanceMethod yX5_takeNumber ∈ gtbl := gmem (List.mem_of_getElem? (i := 313) (by decide +kernel)) (by decide +kernel)
theorem w_code_X5_takeNumber : Cond.code yX5_takeNumber cX5_takeNumber 2 none ∈ gtbl := gmem (List.mem_of_getElem? (i := 314) (by decide +kernel)) (by decide +kernel)
theorem l_X5_40 : Cond.methodLink RX5 40 yX5_readItem ∈ gtbl := gmem (List.mem_of_getElem? (i := 315) (by decide +kernel)) (by decide +kernel)
theorem w_inst_X5_readItem : Cond.instanceMethod yX5_readItem ∈ gtbl := gmem (List.mem_of_getElem? (i := 317) (by decide +kernel)) (by decide +kernel)
theorem w_code_X5_readItem : Cond.code yX5_readItem cX5_readItem 3 (some .boolean) ∈ gtbl := gmem (List.mem_of_getElem? (i := 318) (by decide +kernel)) (by decide +kernel)
theorem l_X5_44 : Cond.methodLink RX5 44 yX5_readLeaf ∈ gtbl := gmem (List.mem_of_getElem? (i := 319) (by decide +kernel)) (by decide +kernel)
theorem w_inst_X5_readLeaf : Cond.instanceMethod yX5_readLeaf ∈ gtbl := gmem (List.mem_of_getElem? (i := 321) (by decide +kernel)) (by decide +kernel)
theorem w_code_X5_readLeaf : Cond.code yX5_readLeaf cX5_readLeaf 2 (some .boolean) ∈ gtbl := gmem (List.mem_of_getElem? (i := 322) (by decide +kernel)) (by decide +kernel)
theorem l_X5_65 : Cond.methodLink RX5 65 yX5_readTastes ∈ gtbl := gmem (List.mem_of_getElem? (i := 323) (by decide +kernel)) (by decide +kernel)
theorem w_inst_X5_readTastes : Cond.instanceMethod yX5_readTastes ∈ gtbl := gmem (List.mem_of_getElem? (i := 325) (by decide +kernel)) (by decide +kernel)
theorem w_code_X5_readTastes : Cond.code yX5_readTastes cX5_readTastes 3 (some .boolean) ∈ gtbl := gmem (List.mem_of_getElem? (i := 326) (by decide +kernel)) (by decide +kernel)
theorem l_X5_75 : Cond.methodLink RX5 75 yX5_isRow ∈ gtbl := gmem (List.mem_of_getElem? (i := 327) (by decide +kernel)) (by decide +kernel)
theorem w_inst_X5_isRow : Cond.instanceMethod yX5_isRow ∈ gtbl := gmem (List.mem_of_getElem? (i := 329) (by decide +kernel)) (by decide +kernel)
theorem w_code_X5_isRow : Cond.code yX5_isRow cX5_isRow 4 (some .boolean) ∈ gtbl := gmem (List.mem_of_getElem? (i := 330) (by decide +kernel)) (by decide +kernel)
theorem l_X5_108 : Cond.methodLinkNest RX5 108 yX6_isTaste "TruePies" ∈ ntbl := nmem (List.mem_of_getElem? (i := 331) (by decide +kernel)) (by decide +kernel)
theorem w_stat_X6_isTaste : Cond.static yX6_isTaste ∈ gtbl := gmem (List.mem_of_getElem? (i := 332) (by decide +kernel)) (by decide +kernel)
theorem w_code_X6_isTaste : Cond.code yX6_isTaste cX6_isTaste 1 (some .boolean) ∈ gtbl := gmem (List.mem_of_getElem? (i := 333) (by decide +kernel)) (by decide +kernel)
theorem l_X5_79 : Cond.methodLink RX5 79 yX5_rowBits ∈ gtbl := gmem (List.mem_of_getElem? (i := 334) (by decide +kernel)) (by decide +kernel)
theorem w_inst_X5_rowBits : Cond.instanceMethod yX5_rowBits ∈ gtbl := gmem (List.mem_of_getElem? (i := 336) (by decide +kernel)) (by decide +kernel)
theorem w_code_X5_rowBits : Cond.code yX5_rowBits cX5_rowBits 3 (some .int) ∈ gtbl := gmem (List.mem_of_getElem? (i := 337) (by decide +kernel)) (by decide +kernel)
theorem l_X5_47 : Cond.methodLink RX5 47 yX5_readGoer ∈ gtbl := gmem (List.mem_of_getElem? (i := 338) (by decide +kernel)) (by decide +kernel)
theorem w_inst_X5_readGoer : Cond.instanceMethod yX5_readGoer ∈ gtbl := gmem (List.mem_of_getElem? (i := 340) (by decide +kernel)) (by decide +kernel)
theorem w_code_X5_readGoer : Cond.code yX5_readGoer cX5_readGoer 2 (some .boolean) ∈ gtbl := gmem (List.mem_of_getElem? (i := 341) (by decide +kernel)) (by decide +kernel)
theorem l_X5_50 : Cond.methodLink RX5 50 yX5_readSister ∈ gtbl := gmem (List.mem_of_getElem? (i := 342) (by decide +kernel)) (by decide +kernel)
theorem w_inst_X5_readSister : Cond.instanceMethod yX5_readSister ∈ gtbl := gmem (List.mem_of_getElem? (i := 344) (by decide +kernel)) (by decide +kernel)
theorem w_code_X5_readSister : Cond.code yX5_readSister cX5_readSister 3 (some .boolean) ∈ gtbl := gmem (List.mem_of_getElem? (i := 345) (by decide +kernel)) (by decide +kernel)
theorem l_X5_53 : Cond.methodLink RX5 53 yX5_readFriday ∈ gtbl := gmem (List.mem_of_getElem? (i := 346) (by decide +kernel)) (by decide +kernel)
theorem w_inst_X5_readFriday : Cond.instanceMethod yX5_readFriday ∈ gtbl := gmem (List.mem_of_getElem? (i := 348) (by decide +kernel)) (by decide +kernel)
theorem w_code_X5_readFriday : Cond.code yX5_readFriday cX5_readFriday 3 (some .boolean) ∈ gtbl := gmem (List.mem_of_getElem? (i := 349) (by decide +kernel)) (by decide +kernel)
theorem l_X5_92 : Cond.methodLink RX5 92 yX5_isNumber ∈ gtbl := gmem (List.mem_of_getElem? (i := 350) (by decide +kernel)) (by decide +kernel)
theorem w_inst_X5_isNumber : Cond.instanceMethod yX5_isNumber ∈ gtbl := gmem (List.mem_of_getElem? (i := 352) (by decide +kernel)) (by decide +kernel)
theorem w_code_X5_isNumber : Cond.code yX5_isNumber cX5_isNumber 3 (some .boolean) ∈ gtbl := gmem (List.mem_of_getElem? (i := 353) (by decide +kernel)) (by decide +kernel)
theorem l_X5_96 : Cond.methodLink RX5 96 yX5_number ∈ gtbl := gmem (List.mem_of_getElem? (i := 354) (by decide +kernel)) (by decide +kernel)
theorem w_inst_X5_number : Cond.instanceMethod yX5_number ∈ gtbl := gmem (List.mem_of_getElem? (i := 356) (by decide +kernel)) (by decide +kernel)
theorem w_code_X5_number : Cond.code yX5_number cX5_number 3 (some .int) ∈ gtbl := gmem (List.mem_of_getElem? (i := 357) (by decide +kernel)) (by decide +kernel)
theorem l_X5_56 : Cond.methodLink RX5 56 yX5_readLane ∈ gtbl := gmem (List.mem_of_getElem? (i := 358) (by decide +kernel)) (by decide +kernel)
theorem w_inst_X5_readLane : Cond.instanceMethod yX5_readLane ∈ gtbl := gmem (List.mem_of_getElem? (i := 360) (by decide +kernel)) (by decide +kernel)
theorem w_code_X5_readLane : Cond.code yX5_readLane cX5_readLane 2 (some .boolean) ∈ gtbl := gmem (List.mem_of_getElem? (i := 361) (by decide +kernel)) (by decide +kernel)
theorem l_X6_78 : Cond.methodLink RX6 78 yX3_startAnew ∈ gtbl := gmem (List.mem_of_getElem? (i := 362) (by decide +kernel)) (by decide +kernel)
theorem w_inst_X3_startAnew : Cond.instanceMethod yX3_startAnew ∈ gtbl := gmem (List.mem_of_getElem? (i := 363) (by decide +kernel)) (by decide +kernel)
theorem w_sel_X3_startAnew : Cond.selects RX3 yX3_startAnew yX3_startAnew ∈ gtbl := gmem (List.mem_of_getElem? (i := 364) (by decide +kernel)) (by decide +kernel)
theorem w_code_X3_startAnew : Cond.code yX3_startAnew cX3_startAnew 1 none ∈ gtbl := gmem (List.mem_of_getElem? (i := 365) (by decide +kernel)) (by decide +kernel)
theorem l_X3_31 : Cond.methodLink RX3 31 yJ7_fill_53178 ∈ gtbl := gmem (List.mem_of_getElem? (i := 366) (by decide +kernel)) (by decide +kernel)
theorem w_stat_J7_fill_53178 : Cond.static yJ7_fill_53178 ∈ gtbl := gmem (List.mem_of_getElem? (i := 367) (by decide +kernel)) (by decide +kernel)
theorem w_code_J7_fill_53178 : Cond.code yJ7_fill_53178 cJ7_fill_53178 4 none ∈ gtbl := gmem (List.mem_of_getElem? (i := 368) (by decide +kernel)) (by decide +kernel)
theorem l_L_27 : Cond.methodLink RL 27 yX6_leaf ∈ gtbl := gmem (List.mem_of_getElem? (i := 369) (by decide +kernel)) (by decide +kernel)
theorem w_inst_X6_leaf : Cond.instanceMethod yX6_leaf ∈ gtbl := gmem (List.mem_of_getElem? (i := 370) (by decide +kernel)) (by decide +kernel)
theorem w_sel_X6_leaf : Cond.selects RX6 yX6_leaf yX6_leaf ∈ gtbl := gmem (List.mem_of_getElem? (i := 371) (by decide +kernel)) (by decide +kernel)
theorem w_code_X6_leaf : Cond.code yX6_leaf cX6_leaf 3 (some .int) ∈ gtbl := gmem (List.mem_of_getElem? (i := 372) (by decide +kernel)) (by decide +kernel)
theorem l_X6_87 : Cond.methodLink RX6 87 yX0_hasLeaf ∈ gtbl := gmem (List.mem_of_getElem? (i := 373) (by decide +kernel)) (by decide +kernel)
theorem w_inst_X0_hasLeaf : Cond.instanceMethod yX0_hasLeaf ∈ gtbl := gmem (List.mem_of_getElem? (i := 374) (by decide +kernel)) (by decide +kernel)
theorem w_sel_X0_hasLeaf : Cond.selects RX0 yX0_hasLeaf yX0_hasLeaf ∈ gtbl := gmem (List.mem_of_getElem? (i := 375) (by decide +kernel)) (by decide +kernel)
theorem w_code_X0_hasLeaf : Cond.code yX0_hasLeaf cX0_hasLeaf 2 (some .boolean) ∈ gtbl := gmem (List.mem_of_getElem? (i := 376) (by decide +kernel)) (by decide +kernel)
theorem l_X6_94 : Cond.methodLink RX6 94 yX0_goersLetBy ∈ gtbl := gmem (List.mem_of_getElem? (i := 377) (by decide +kernel)) (by decide +kernel)
theorem w_inst_X0_goersLetBy : Cond.instanceMethod yX0_goersLetBy ∈ gtbl := gmem (List.mem_of_getElem? (i := 378) (by decide +kernel)) (by decide +kernel)
theorem w_sel_X0_goersLetBy : Cond.selects RX0 yX0_goersLetBy yX0_goersLetBy ∈ gtbl := gmem (List.mem_of_getElem? (i := 379) (by decide +kernel)) (by decide +kernel)
theorem w_code_X0_goersLetBy : Cond.code yX0_goersLetBy cX0_goersLetBy 4 (some .int) ∈ gtbl := gmem (List.mem_of_getElem? (i := 380) (by decide +kernel)) (by decide +kernel)
theorem l_X0_54 : Cond.methodLink RX0 54 yX0_goodTastes ∈ gtbl := gmem (List.mem_of_getElem? (i := 381) (by decide +kernel)) (by decide +kernel)
theorem w_inst_X0_goodTastes : Cond.instanceMethod yX0_goodTastes ∈ gtbl := gmem (List.mem_of_getElem? (i := 382) (by decide +kernel)) (by decide +kernel)
theorem w_sel_X0_goodTastes : Cond.selects RX0 yX0_goodTastes yX0_goodTastes ∈ gtbl := gmem (List.mem_of_getElem? (i := 383) (by decide +kernel)) (by decide +kernel)
theorem w_code_X0_goodTastes : Cond.code yX0_goodTastes cX0_goodTastes 3 (some .int) ∈ gtbl := gmem (List.mem_of_getElem? (i := 384) (by decide +kernel)) (by decide +kernel)
theorem l_X0_43 : Cond.methodLink RX0 43 yX0_hasLeaf ∈ gtbl := gmem (List.mem_of_getElem? (i := 385) (by decide +kernel)) (by decide +kernel)
theorem l_X0_51 : Cond.methodLink RX0 51 yX0_hasGoer ∈ gtbl := gmem (List.mem_of_getElem? (i := 386) (by decide +kernel)) (by decide +kernel)
theorem w_inst_X0_hasGoer : Cond.instanceMethod yX0_hasGoer ∈ gtbl := gmem (List.mem_of_getElem? (i := 387) (by decide +kernel)) (by decide +kernel)
theorem w_sel_X0_hasGoer : Cond.selects RX0 yX0_hasGoer yX0_hasGoer ∈ gtbl := gmem (List.mem_of_getElem? (i := 388) (by decide +kernel)) (by decide +kernel)
theorem w_code_X0_hasGoer : Cond.code yX0_hasGoer cX0_hasGoer 2 (some .boolean) ∈ gtbl := gmem (List.mem_of_getElem? (i := 389) (by decide +kernel)) (by decide +kernel)
theorem l_L_32 : Cond.methodLink RL 32 yX6_goer ∈ gtbl := gmem (List.mem_of_getElem? (i := 390) (by decide +kernel)) (by decide +kernel)
theorem w_inst_X6_goer : Cond.instanceMethod yX6_goer ∈ gtbl := gmem (List.mem_of_getElem? (i := 391) (by decide +kernel)) (by decide +kernel)
theorem w_sel_X6_goer : Cond.selects RX6 yX6_goer yX6_goer ∈ gtbl := gmem (List.mem_of_getElem? (i := 392) (by decide +kernel)) (by decide +kernel)
theorem w_code_X6_goer : Cond.code yX6_goer cX6_goer 3 (some .int) ∈ gtbl := gmem (List.mem_of_getElem? (i := 393) (by decide +kernel)) (by decide +kernel)
theorem l_X6_98 : Cond.methodLink RX6 98 yX0_hasGoer ∈ gtbl := gmem (List.mem_of_getElem? (i := 394) (by decide +kernel)) (by decide +kernel)
theorem l_X6_116 : Cond.methodLink RX6 116 yX0_leavesThatLet ∈ gtbl := gmem (List.mem_of_getElem? (i := 395) (by decide +kernel)) (by decide +kernel)
theorem w_inst_X0_leavesThatLet : Cond.instanceMethod yX0_leavesThatLet ∈ gtbl := gmem (List.mem_of_getElem? (i := 396) (by decide +kernel)) (by decide +kernel)
theorem w_sel_X0_leavesThatLet : Cond.selects RX0 yX0_leavesThatLet yX0_leavesThatLet ∈ gtbl := gmem (List.mem_of_getElem? (i := 397) (by decide +kernel)) (by decide +kernel)
theorem w_code_X0_leavesThatLet : Cond.code yX0_leavesThatLet cX0_leavesThatLet 4 (some .int) ∈ gtbl := gmem (List.mem_of_getElem? (i := 398) (by decide +kernel)) (by decide +kernel)
theorem l_L_36 : Cond.methodLink RL 36 yX6_sister ∈ gtbl := gmem (List.mem_of_getElem? (i := 399) (by decide +kernel)) (by decide +kernel)
theorem w_inst_X6_sister : Cond.instanceMethod yX6_sister ∈ gtbl := gmem (List.mem_of_getElem? (i := 400) (by decide +kernel)) (by decide +kernel)
theorem w_sel_X6_sister : Cond.selects RX6 yX6_sister yX6_sister ∈ gtbl := gmem (List.mem_of_getElem? (i := 401) (by decide +kernel)) (by decide +kernel)
theorem w_code_X6_sister : Cond.code yX6_sister cX6_sister 3 (some .int) ∈ gtbl := gmem (List.mem_of_getElem? (i := 402) (by decide +kernel)) (by decide +kernel)
theorem l_X6_122 : Cond.methodLink RX6 122 yX6_isTaste ∈ gtbl := gmem (List.mem_of_getElem? (i := 403) (by decide +kernel)) (by decide +kernel)
theorem l_X6_125 : Cond.methodLink RX6 125 yX0_changed ∈ gtbl := gmem (List.mem_of_getElem? (i := 404) (by decide +kernel)) (by decide +kernel)
theorem w_inst_X0_changed : Cond.instanceMethod yX0_changed ∈ gtbl := gmem (List.mem_of_getElem? (i := 405) (by decide +kernel)) (by decide +kernel)
theorem w_sel_X0_changed : Cond.selects RX0 yX0_changed yX0_changed ∈ gtbl := gmem (List.mem_of_getElem? (i := 406) (by decide +kernel)) (by decide +kernel)
theorem w_code_X0_changed : Cond.code yX0_changed cX0_changed 3 (some .int) ∈ gtbl := gmem (List.mem_of_getElem? (i := 407) (by decide +kernel)) (by decide +kernel)
theorem l_L_40 : Cond.methodLink RL 40 yX6_now ∈ gtbl := gmem (List.mem_of_getElem? (i := 408) (by decide +kernel)) (by decide +kernel)
theorem w_inst_X6_now : Cond.instanceMethod yX6_now ∈ gtbl := gmem (List.mem_of_getElem? (i := 409) (by decide +kernel)) (by decide +kernel)
theorem w_sel_X6_now : Cond.selects RX6 yX6_now yX6_now ∈ gtbl := gmem (List.mem_of_getElem? (i := 410) (by decide +kernel)) (by decide +kernel)
theorem w_code_X6_now : Cond.code yX6_now cX6_now 2 (some .int) ∈ gtbl := gmem (List.mem_of_getElem? (i := 411) (by decide +kernel)) (by decide +kernel)
theorem l_X6_135 : Cond.methodLink RX6 135 yX3_whoAre ∈ gtbl := gmem (List.mem_of_getElem? (i := 412) (by decide +kernel)) (by decide +kernel)
theorem w_inst_X3_whoAre : Cond.instanceMethod yX3_whoAre ∈ gtbl := gmem (List.mem_of_getElem? (i := 413) (by decide +kernel)) (by decide +kernel)
theorem w_sel_X3_whoAre : Cond.selects RX3 yX3_whoAre yX3_whoAre ∈ gtbl := gmem (List.mem_of_getElem? (i := 414) (by decide +kernel)) (by decide +kernel)
theorem w_code_X3_whoAre : Cond.code yX3_whoAre cX3_whoAre 4 (some .int) ∈ gtbl := gmem (List.mem_of_getElem? (i := 415) (by decide +kernel)) (by decide +kernel)
theorem l_X6_138 : Cond.methodLink RX6 138 yX0_cover ∈ gtbl := gmem (List.mem_of_getElem? (i := 416) (by decide +kernel)) (by decide +kernel)
theorem w_inst_X0_cover : Cond.instanceMethod yX0_cover ∈ gtbl := gmem (List.mem_of_getElem? (i := 417) (by decide +kernel)) (by decide +kernel)
theorem w_sel_X0_cover : Cond.selects RX0 yX0_cover yX0_cover ∈ gtbl := gmem (List.mem_of_getElem? (i := 418) (by decide +kernel)) (by decide +kernel)
theorem w_code_X0_cover : Cond.code yX0_cover cX0_cover 4 (some .int) ∈ gtbl := gmem (List.mem_of_getElem? (i := 419) (by decide +kernel)) (by decide +kernel)
theorem l_X0_58 : Cond.methodLink RX0 58 yJ6_bitCount_0f7a4 ∈ gtbl := gmem (List.mem_of_getElem? (i := 420) (by decide +kernel)) (by decide +kernel)
theorem w_stat_J6_bitCount_0f7a4 : Cond.static yJ6_bitCount_0f7a4 ∈ gtbl := gmem (List.mem_of_getElem? (i := 421) (by decide +kernel)) (by decide +kernel)
theorem w_code_J6_bitCount_0f7a4 : Cond.code yJ6_bitCount_0f7a4 cJ6_bitCount_0f7a4 1 (some .int) ∈ gtbl := gmem (List.mem_of_getElem? (i := 422) (by decide +kernel)) (by decide +kernel)
theorem v_J6_265 : Cond.constant RJ6 265 (1431655765) ∈ gtbl := gmem (List.mem_of_getElem? (i := 423) (by decide +kernel)) (by decide +kernel)
theorem v_J6_266 : Cond.constant RJ6 266 (858993459) ∈ gtbl := gmem (List.mem_of_getElem? (i := 424) (by decide +kernel)) (by decide +kernel)
theorem v_J6_267 : Cond.constant RJ6 267 (252645135) ∈ gtbl := gmem (List.mem_of_getElem? (i := 425) (by decide +kernel)) (by decide +kernel)
theorem l_X0_64 : Cond.methodLink RX0 64 yX0_coversAll ∈ gtbl := gmem (List.mem_of_getElem? (i := 426) (by decide +kernel)) (by decide +kernel)
theorem w_inst_X0_coversAll : Cond.instanceMethod yX0_coversAll ∈ gtbl := gmem (List.mem_of_getElem? (i := 428) (by decide +kernel)) (by decide +kernel)
theorem w_code_X0_coversAll : Cond.code yX0_coversAll cX0_coversAll 3 (some .boolean) ∈ gtbl := gmem (List.mem_of_getElem? (i := 429) (by decide +kernel)) (by decide +kernel)
theorem l_X0_67 : Cond.methodLink RX0 67 yX0_leavesThatLet ∈ gtbl := gmem (List.mem_of_getElem? (i := 430) (by decide +kernel)) (by decide +kernel)
theorem l_L_44 : Cond.methodLink RL 44 yX6_comes ∈ gtbl := gmem (List.mem_of_getElem? (i := 431) (by decide +kernel)) (by decide +kernel)
theorem w_inst_X6_comes : Cond.instanceMethod yX6_comes ∈ gtbl := gmem (List.mem_of_getElem? (i := 432) (by decide +kernel)) (by decide +kernel)
theorem w_sel_X6_comes : Cond.selects RX6 yX6_comes yX6_comes ∈ gtbl := gmem (List.mem_of_getElem? (i := 433) (by decide +kernel)) (by decide +kernel)
theorem w_code_X6_comes : Cond.code yX6_comes cX6_comes 2 (some .int) ∈ gtbl := gmem (List.mem_of_getElem? (i := 434) (by decide +kernel)) (by decide +kernel)
theorem l_X6_142 : Cond.methodLink RX6 142 yX1_remember ∈ gtbl := gmem (List.mem_of_getElem? (i := 435) (by decide +kernel)) (by decide +kernel)
theorem w_inst_X1_remember : Cond.instanceMethod yX1_remember ∈ gtbl := gmem (List.mem_of_getElem? (i := 436) (by decide +kernel)) (by decide +kernel)
theorem w_sel_X1_remember : Cond.selects RX1 yX1_remember yX1_remember ∈ gtbl := gmem (List.mem_of_getElem? (i := 437) (by decide +kernel)) (by decide +kernel)
theorem w_code_X1_remember : Cond.code yX1_remember cX1_remember 2 none ∈ gtbl := gmem (List.mem_of_getElem? (i := 438) (by decide +kernel)) (by decide +kernel)
theorem l_X1_25 : Cond.methodLink RX1 25 yX3_become ∈ gtbl := gmem (List.mem_of_getElem? (i := 439) (by decide +kernel)) (by decide +kernel)
theorem w_inst_X3_become : Cond.instanceMethod yX3_become ∈ gtbl := gmem (List.mem_of_getElem? (i := 440) (by decide +kernel)) (by decide +kernel)
theorem w_sel_X3_become : Cond.selects RX3 yX3_become yX3_become ∈ gtbl := gmem (List.mem_of_getElem? (i := 441) (by decide +kernel)) (by decide +kernel)
theorem w_code_X3_become : Cond.code yX3_become cX3_become 2 none ∈ gtbl := gmem (List.mem_of_getElem? (i := 442) (by decide +kernel)) (by decide +kernel)
theorem l_X3_37 : Cond.methodLink RX3 37 arraycopyName ∈ gtbl := gmem (List.mem_of_getElem? (i := 443) (by decide +kernel)) (by decide +kernel)
theorem w_stat_copy : Cond.static arraycopyName ∈ gtbl := gmem (List.mem_of_getElem? (i := 444) (by decide +kernel)) (by decide +kernel)
theorem w_nat_copy : Cond.native arraycopyName ∈ gtbl := gmem (List.mem_of_getElem? (i := 445) (by decide +kernel)) (by decide +kernel)
theorem l_X1_29 : Cond.methodLink RX1 29 yJ9_min_7cf53 ∈ gtbl := gmem (List.mem_of_getElem? (i := 446) (by decide +kernel)) (by decide +kernel)
theorem w_stat_J9_min_7cf53 : Cond.static yJ9_min_7cf53 ∈ gtbl := gmem (List.mem_of_getElem? (i := 447) (by decide +kernel)) (by decide +kernel)
theorem w_code_J9_min_7cf53 : Cond.code yJ9_min_7cf53 cJ9_min_7cf53 2 (some .int) ∈ gtbl := gmem (List.mem_of_getElem? (i := 448) (by decide +kernel)) (by decide +kernel)
theorem l_X6_146 : Cond.methodLink RX6 146 yJ6_bitCount_0f7a4 ∈ gtbl := gmem (List.mem_of_getElem? (i := 449) (by decide +kernel)) (by decide +kernel)
theorem l_L_48 : Cond.methodLink RL 48 yX6_says ∈ gtbl := gmem (List.mem_of_getElem? (i := 450) (by decide +kernel)) (by decide +kernel)
theorem w_inst_X6_says : Cond.instanceMethod yX6_says ∈ gtbl := gmem (List.mem_of_getElem? (i := 451) (by decide +kernel)) (by decide +kernel)
theorem w_sel_X6_says : Cond.selects RX6 yX6_says yX6_says ∈ gtbl := gmem (List.mem_of_getElem? (i := 452) (by decide +kernel)) (by decide +kernel)
theorem w_code_X6_says : Cond.code yX6_says cX6_says 4 (some .int) ∈ gtbl := gmem (List.mem_of_getElem? (i := 453) (by decide +kernel)) (by decide +kernel)
theorem l_X6_154 : Cond.methodLink RX6 154 yX0_goodTastes ∈ gtbl := gmem (List.mem_of_getElem? (i := 454) (by decide +kernel)) (by decide +kernel)
theorem l_X6_157 : Cond.methodLink RX6 157 yX6_hasBit ∈ gtbl := gmem (List.mem_of_getElem? (i := 455) (by decide +kernel)) (by decide +kernel)
theorem w_stat_X6_hasBit : Cond.static yX6_hasBit ∈ gtbl := gmem (List.mem_of_getElem? (i := 456) (by decide +kernel)) (by decide +kernel)
theorem w_code_X6_hasBit : Cond.code yX6_hasBit cX6_hasBit 2 (some .boolean) ∈ gtbl := gmem (List.mem_of_getElem? (i := 457) (by decide +kernel)) (by decide +kernel)
theorem l_X6_164 : Cond.methodLink RX6 164 yX3_sendRound ∈ gtbl := gmem (List.mem_of_getElem? (i := 458) (by decide +kernel)) (by decide +kernel)
theorem w_inst_X3_sendRound : Cond.instanceMethod yX3_sendRound ∈ gtbl := gmem (List.mem_of_getElem? (i := 459) (by decide +kernel)) (by decide +kernel)
theorem w_sel_X3_sendRound : Cond.selects RX3 yX3_sendRound yX3_sendRound ∈ gtbl := gmem (List.mem_of_getElem? (i := 460) (by decide +kernel)) (by decide +kernel)
theorem w_code_X3_sendRound : Cond.code yX3_sendRound cX3_sendRound 3 none ∈ gtbl := gmem (List.mem_of_getElem? (i := 461) (by decide +kernel)) (by decide +kernel)
theorem l_X6_168 : Cond.methodLink RX6 168 yX0_leafBehind ∈ gtbl := gmem (List.mem_of_getElem? (i := 462) (by decide +kernel)) (by decide +kernel)
theorem w_inst_X0_leafBehind : Cond.instanceMethod yX0_leafBehind ∈ gtbl := gmem (List.mem_of_getElem? (i := 463) (by decide +kernel)) (by decide +kernel)
theorem w_sel_X0_leafBehind : Cond.selects RX0 yX0_leafBehind yX0_leafBehind ∈ gtbl := gmem (List.mem_of_getElem? (i := 464) (by decide +kernel)) (by decide +kernel)
theorem w_code_X0_leafBehind : Cond.code yX0_leafBehind cX0_leafBehind 3 (some .int) ∈ gtbl := gmem (List.mem_of_getElem? (i := 465) (by decide +kernel)) (by decide +kernel)
theorem l_X6_171 : Cond.methodLink RX6 171 yJ9_min_7cf53 ∈ gtbl := gmem (List.mem_of_getElem? (i := 466) (by decide +kernel)) (by decide +kernel)
theorem l_L_52 : Cond.methodLink RL 52 yX6_minutes ∈ gtbl := gmem (List.mem_of_getElem? (i := 467) (by decide +kernel)) (by decide +kernel)
theorem w_inst_X6_minutes : Cond.instanceMethod yX6_minutes ∈ gtbl := gmem (List.mem_of_getElem? (i := 468) (by decide +kernel)) (by decide +kernel)
theorem w_sel_X6_minutes : Cond.selects RX6 yX6_minutes yX6_minutes ∈ gtbl := gmem (List.mem_of_getElem? (i := 469) (by decide +kernel)) (by decide +kernel)
theorem w_code_X6_minutes : Cond.code yX6_minutes cX6_minutes 2 (some .int) ∈ gtbl := gmem (List.mem_of_getElem? (i := 470) (by decide +kernel)) (by decide +kernel)
theorem l_X6_176 : Cond.methodLink RX6 176 yX3_pass ∈ gtbl := gmem (List.mem_of_getElem? (i := 471) (by decide +kernel)) (by decide +kernel)
theorem w_inst_X3_pass : Cond.instanceMethod yX3_pass ∈ gtbl := gmem (List.mem_of_getElem? (i := 472) (by decide +kernel)) (by decide +kernel)
theorem w_sel_X3_pass : Cond.selects RX3 yX3_pass yX3_pass ∈ gtbl := gmem (List.mem_of_getElem? (i := 473) (by decide +kernel)) (by decide +kernel)
theorem w_code_X3_pass : Cond.code yX3_pass cX3_pass 3 none ∈ gtbl := gmem (List.mem_of_getElem? (i := 474) (by decide +kernel)) (by decide +kernel)
theorem l_L_56 : Cond.methodLink RL 56 yX6_undo ∈ gtbl := gmem (List.mem_of_getElem? (i := 475) (by decide +kernel)) (by decide +kernel)
theorem w_inst_X6_undo : Cond.instanceMethod yX6_undo ∈ gtbl := gmem (List.mem_of_getElem? (i := 476) (by decide +kernel)) (by decide +kernel)
theorem w_sel_X6_undo : Cond.selects RX6 yX6_undo yX6_undo ∈ gtbl := gmem (List.mem_of_getElem? (i := 477) (by decide +kernel)) (by decide +kernel)
theorem w_code_X6_undo : Cond.code yX6_undo cX6_undo 1 (some .int) ∈ gtbl := gmem (List.mem_of_getElem? (i := 478) (by decide +kernel)) (by decide +kernel)
theorem l_X6_180 : Cond.methodLink RX6 180 yX1_recall ∈ gtbl := gmem (List.mem_of_getElem? (i := 479) (by decide +kernel)) (by decide +kernel)
theorem w_inst_X1_recall : Cond.instanceMethod yX1_recall ∈ gtbl := gmem (List.mem_of_getElem? (i := 480) (by decide +kernel)) (by decide +kernel)
theorem w_sel_X1_recall : Cond.selects RX1 yX1_recall yX1_recall ∈ gtbl := gmem (List.mem_of_getElem? (i := 481) (by decide +kernel)) (by decide +kernel)
theorem w_code_X1_recall : Cond.code yX1_recall cX1_recall 2 none ∈ gtbl := gmem (List.mem_of_getElem? (i := 482) (by decide +kernel)) (by decide +kernel)
theorem l_L_60 : Cond.methodLink RL 60 yX6_fewest ∈ gtbl := gmem (List.mem_of_getElem? (i := 483) (by decide +kernel)) (by decide +kernel)
