theorem w_code_X7_says : Cond.code yX7_says cX7_says 4 (some .int) ∈ gtbl := gmem (List.mem_of_getElem? (i := 913) (by decide +kernel)) (by decide +kernel)
theorem l_L_55 : Cond.methodLink RL 55 yX7_minutes ∈ gtbl := gmem (List.mem_of_getElem? (i := 914) (by decide +kernel)) (by decide +kernel)
theorem w_inst_X7_minutes : Cond.instanceMethod yX7_minutes ∈ gtbl := gmem (List.mem_of_getElem? (i := 915) (by decide +kernel)) (by decide +kernel)
theorem w_sel_X7_minutes : Cond.selects RX7 yX7_minutes yX7_minutes ∈ gtbl := gmem (List.mem_of_getElem? (i := 916) (by decide +kernel)) (by decide +kernel)
theorem w_code_X7_minutes : Cond.code yX7_minutes cX7_minutes 3 (some .int) ∈ gtbl := gmem (List.mem_of_getElem? (i := 917) (by decide +kernel)) (by decide +kernel)
theorem v_X7_223 : Cond.constantLong RX7 223 (9) ∈ gtbl := gmem (List.mem_of_getElem? (i := 918) (by decide +kernel)) (by decide +kernel)
theorem l_L_59 : Cond.methodLink RL 59 yX7_undo ∈ gtbl := gmem (List.mem_of_getElem? (i := 919) (by decide +kernel)) (by decide +kernel)
theorem w_inst_X7_undo : Cond.instanceMethod yX7_undo ∈ gtbl := gmem (List.mem_of_getElem? (i := 920) (by decide +kernel)) (by decide +kernel)
theorem w_sel_X7_undo : Cond.selects RX7 yX7_undo yX7_undo ∈ gtbl := gmem (List.mem_of_getElem? (i := 921) (by decide +kernel)) (by decide +kernel)
theorem w_code_X7_undo : Cond.code yX7_undo cX7_undo 1 (some .int) ∈ gtbl := gmem (List.mem_of_getElem? (i := 922) (by decide +kernel)) (by decide +kernel)
theorem l_L_63 : Cond.methodLink RL 63 yX7_fewest ∈ gtbl := gmem (List.mem_of_getElem? (i := 923) (by decide +kernel)) (by decide +kernel)
theorem w_inst_X7_fewest : Cond.instanceMethod yX7_fewest ∈ gtbl := gmem (List.mem_of_getElem? (i := 924) (by decide +kernel)) (by decide +kernel)
theorem w_sel_X7_fewest : Cond.selects RX7 yX7_fewest yX7_fewest ∈ gtbl := gmem (List.mem_of_getElem? (i := 925) (by decide +kernel)) (by decide +kernel)
theorem w_code_X7_fewest : Cond.code yX7_fewest cX7_fewest 5 (some .int) ∈ gtbl := gmem (List.mem_of_getElem? (i := 926) (by decide +kernel)) (by decide +kernel)
theorem l_X7_225 : Cond.methodLink RX7 225 yX7_lowest ∈ gtbl := gmem (List.mem_of_getElem? (i := 927) (by decide +kernel)) (by decide +kernel)
theorem w_stat_X7_lowest : Cond.static yX7_lowest ∈ gtbl := gmem (List.mem_of_getElem? (i := 928) (by decide +kernel)) (by decide +kernel)
theorem w_code_X7_lowest : Cond.code yX7_lowest cX7_lowest 2 (some .int) ∈ gtbl := gmem (List.mem_of_getElem? (i := 929) (by decide +kernel)) (by decide +kernel)
theorem l_L_67 : Cond.methodLink RL 67 yX7_line ∈ gtbl := gmem (List.mem_of_getElem? (i := 930) (by decide +kernel)) (by decide +kernel)
theorem w_inst_X7_line : Cond.instanceMethod yX7_line ∈ gtbl := gmem (List.mem_of_getElem? (i := 931) (by decide +kernel)) (by decide +kernel)
theorem w_sel_X7_line : Cond.selects RX7 yX7_line yX7_line ∈ gtbl := gmem (List.mem_of_getElem? (i := 932) (by decide +kernel)) (by decide +kernel)
theorem w_code_X7_line : Cond.code yX7_line cX7_line 7 (some .int) ∈ gtbl := gmem (List.mem_of_getElem? (i := 933) (by decide +kernel)) (by decide +kernel)
theorem v_X7_228 : Cond.constantLong RX7 228 (-1) ∈ gtbl := gmem (List.mem_of_getElem? (i := 934) (by decide +kernel)) (by decide +kernel)
theorem l_X7_230 : Cond.methodLink RX7 230 yX7_nextOrder ∈ gtbl := gmem (List.mem_of_getElem? (i := 935) (by decide +kernel)) (by decide +kernel)
theorem w_inst_X7_nextOrder : Cond.instanceMethod yX7_nextOrder ∈ gtbl := gmem (List.mem_of_getElem? (i := 937) (by decide +kernel)) (by decide +kernel)
theorem w_code_X7_nextOrder : Cond.code yX7_nextOrder cX7_nextOrder 7 (some .boolean) ∈ gtbl := gmem (List.mem_of_getElem? (i := 938) (by decide +kernel)) (by decide +kernel)
theorem l_L_72 : Cond.methodLink RL 72 yX7_sees ∈ gtbl := gmem (List.mem_of_getElem? (i := 939) (by decide +kernel)) (by decide +kernel)
theorem w_inst_X7_sees : Cond.instanceMethod yX7_sees ∈ gtbl := gmem (List.mem_of_getElem? (i := 940) (by decide +kernel)) (by decide +kernel)
theorem w_sel_X7_sees : Cond.selects RX7 yX7_sees yX7_sees ∈ gtbl := gmem (List.mem_of_getElem? (i := 941) (by decide +kernel)) (by decide +kernel)
theorem w_code_X7_sees : Cond.code yX7_sees cX7_sees 4 (some .int) ∈ gtbl := gmem (List.mem_of_getElem? (i := 942) (by decide +kernel)) (by decide +kernel)
theorem l_L_76 : Cond.methodLink RL 76 yX7_forget ∈ gtbl := gmem (List.mem_of_getElem? (i := 943) (by decide +kernel)) (by decide +kernel)
theorem w_inst_X7_forget : Cond.instanceMethod yX7_forget ∈ gtbl := gmem (List.mem_of_getElem? (i := 944) (by decide +kernel)) (by decide +kernel)
theorem w_sel_X7_forget : Cond.selects RX7 yX7_forget yX7_forget ∈ gtbl := gmem (List.mem_of_getElem? (i := 945) (by decide +kernel)) (by decide +kernel)
theorem w_code_X7_forget : Cond.code yX7_forget cX7_forget 2 (some .int) ∈ gtbl := gmem (List.mem_of_getElem? (i := 946) (by decide +kernel)) (by decide +kernel)
theorem l_L_80 : Cond.methodLink RL 80 yX7_had ∈ gtbl := gmem (List.mem_of_getElem? (i := 947) (by decide +kernel)) (by decide +kernel)
theorem w_inst_X7_had : Cond.instanceMethod yX7_had ∈ gtbl := gmem (List.mem_of_getElem? (i := 948) (by decide +kernel)) (by decide +kernel)
theorem w_sel_X7_had : Cond.selects RX7 yX7_had yX7_had ∈ gtbl := gmem (List.mem_of_getElem? (i := 949) (by decide +kernel)) (by decide +kernel)
theorem w_code_X7_had : Cond.code yX7_had cX7_had 6 (some .int) ∈ gtbl := gmem (List.mem_of_getElem? (i := 950) (by decide +kernel)) (by decide +kernel)
theorem v_X7_233 : Cond.constantLong RX7 233 (2) ∈ gtbl := gmem (List.mem_of_getElem? (i := 951) (by decide +kernel)) (by decide +kernel)
theorem l_X7_235 : Cond.methodLink RX7 235 yX7_canHave ∈ gtbl := gmem (List.mem_of_getElem? (i := 952) (by decide +kernel)) (by decide +kernel)
theorem w_inst_X7_canHave : Cond.instanceMethod yX7_canHave ∈ gtbl := gmem (List.mem_of_getElem? (i := 954) (by decide +kernel)) (by decide +kernel)
theorem w_code_X7_canHave : Cond.code yX7_canHave cX7_canHave 4 (some .boolean) ∈ gtbl := gmem (List.mem_of_getElem? (i := 955) (by decide +kernel)) (by decide +kernel)
theorem l_L_84 : Cond.methodLink RL 84 yX7_ask ∈ gtbl := gmem (List.mem_of_getElem? (i := 956) (by decide +kernel)) (by decide +kernel)
theorem w_inst_X7_ask : Cond.instanceMethod yX7_ask ∈ gtbl := gmem (List.mem_of_getElem? (i := 957) (by decide +kernel)) (by decide +kernel)
theorem w_sel_X7_ask : Cond.selects RX7 yX7_ask yX7_ask ∈ gtbl := gmem (List.mem_of_getElem? (i := 958) (by decide +kernel)) (by decide +kernel)
theorem w_code_X7_ask : Cond.code yX7_ask cX7_ask 8 (some .int) ∈ gtbl := gmem (List.mem_of_getElem? (i := 959) (by decide +kernel)) (by decide +kernel)
theorem l_X7_238 : Cond.methodLink RX7 238 yX7_had ∈ gtbl := gmem (List.mem_of_getElem? (i := 960) (by decide +kernel)) (by decide +kernel)
theorem l_L_88 : Cond.methodLink RL 88 yX7_tale ∈ gtbl := gmem (List.mem_of_getElem? (i := 961) (by decide +kernel)) (by decide +kernel)
theorem w_inst_X7_tale : Cond.instanceMethod yX7_tale ∈ gtbl := gmem (List.mem_of_getElem? (i := 962) (by decide +kernel)) (by decide +kernel)
theorem w_sel_X7_tale : Cond.selects RX7 yX7_tale yX7_tale ∈ gtbl := gmem (List.mem_of_getElem? (i := 963) (by decide +kernel)) (by decide +kernel)
theorem w_code_X7_tale : Cond.code yX7_tale cX7_tale 3 (some .int) ∈ gtbl := gmem (List.mem_of_getElem? (i := 964) (by decide +kernel)) (by decide +kernel)
theorem v_X7_241 : Cond.constantLong RX7 241 (99) ∈ gtbl := gmem (List.mem_of_getElem? (i := 965) (by decide +kernel)) (by decide +kernel)
theorem l_X7_243 : Cond.methodLink RX7 243 yX7_isTold ∈ gtbl := gmem (List.mem_of_getElem? (i := 966) (by decide +kernel)) (by decide +kernel)
theorem w_inst_X7_isTold : Cond.instanceMethod yX7_isTold ∈ gtbl := gmem (List.mem_of_getElem? (i := 968) (by decide +kernel)) (by decide +kernel)
theorem w_code_X7_isTold : Cond.code yX7_isTold cX7_isTold 2 (some .boolean) ∈ gtbl := gmem (List.mem_of_getElem? (i := 969) (by decide +kernel)) (by decide +kernel)
theorem l_X7_246 : Cond.methodLink RX7 246 yX7_taleOf ∈ gtbl := gmem (List.mem_of_getElem? (i := 970) (by decide +kernel)) (by decide +kernel)
theorem w_inst_X7_taleOf : Cond.instanceMethod yX7_taleOf ∈ gtbl := gmem (List.mem_of_getElem? (i := 972) (by decide +kernel)) (by decide +kernel)
theorem w_code_X7_taleOf : Cond.code yX7_taleOf cX7_taleOf 5 (some .int) ∈ gtbl := gmem (List.mem_of_getElem? (i := 973) (by decide +kernel)) (by decide +kernel)
theorem l_L_92 : Cond.methodLink RL 92 yX7_first ∈ gtbl := gmem (List.mem_of_getElem? (i := 974) (by decide +kernel)) (by decide +kernel)
theorem w_inst_X7_first : Cond.instanceMethod yX7_first ∈ gtbl := gmem (List.mem_of_getElem? (i := 975) (by decide +kernel)) (by decide +kernel)
theorem w_sel_X7_first : Cond.selects RX7 yX7_first yX7_first ∈ gtbl := gmem (List.mem_of_getElem? (i := 976) (by decide +kernel)) (by decide +kernel)
theorem w_code_X7_first : Cond.code yX7_first cX7_first 5 (some .int) ∈ gtbl := gmem (List.mem_of_getElem? (i := 977) (by decide +kernel)) (by decide +kernel)
theorem l_L_96 : Cond.methodLink RL 96 yX7_when ∈ gtbl := gmem (List.mem_of_getElem? (i := 978) (by decide +kernel)) (by decide +kernel)
theorem w_inst_X7_when : Cond.instanceMethod yX7_when ∈ gtbl := gmem (List.mem_of_getElem? (i := 979) (by decide +kernel)) (by decide +kernel)
theorem w_sel_X7_when : Cond.selects RX7 yX7_when yX7_when ∈ gtbl := gmem (List.mem_of_getElem? (i := 980) (by decide +kernel)) (by decide +kernel)
theorem w_code_X7_when : Cond.code yX7_when cX7_when 5 (some .int) ∈ gtbl := gmem (List.mem_of_getElem? (i := 981) (by decide +kernel)) (by decide +kernel)
theorem v_X7_249 : Cond.constantLong RX7 249 (30000) ∈ gtbl := gmem (List.mem_of_getElem? (i := 982) (by decide +kernel)) (by decide +kernel)
theorem l_L_101 : Cond.methodLink RL 101 yX7_odds ∈ gtbl := gmem (List.mem_of_getElem? (i := 983) (by decide +kernel)) (by decide +kernel)
theorem w_inst_X7_odds : Cond.instanceMethod yX7_odds ∈ gtbl := gmem (List.mem_of_getElem? (i := 984) (by decide +kernel)) (by decide +kernel)
theorem w_sel_X7_odds : Cond.selects RX7 yX7_odds yX7_odds ∈ gtbl := gmem (List.mem_of_getElem? (i := 985) (by decide +kernel)) (by decide +kernel)
theorem w_code_X7_odds : Cond.code yX7_odds cX7_odds 15 (some .int) ∈ gtbl := gmem (List.mem_of_getElem? (i := 986) (by decide +kernel)) (by decide +kernel)
theorem v_X7_251 : Cond.constantLong RX7 251 (10) ∈ gtbl := gmem (List.mem_of_getElem? (i := 987) (by decide +kernel)) (by decide +kernel)
theorem v_X7_253 : Cond.constantLong RX7 253 (6) ∈ gtbl := gmem (List.mem_of_getElem? (i := 988) (by decide +kernel)) (by decide +kernel)
theorem l_X7_255 : Cond.methodLink RX7 255 yX7_power ∈ gtbl := gmem (List.mem_of_getElem? (i := 989) (by decide +kernel)) (by decide +kernel)
theorem w_stat_X7_power : Cond.static yX7_power ∈ gtbl := gmem (List.mem_of_getElem? (i := 990) (by decide +kernel)) (by decide +kernel)
theorem w_code_X7_power : Cond.code yX7_power cX7_power 6 (some .long) ∈ gtbl := gmem (List.mem_of_getElem? (i := 991) (by decide +kernel)) (by decide +kernel)
theorem l_L_105 : Cond.methodLink RL 105 yX7_rate ∈ gtbl := gmem (List.mem_of_getElem? (i := 992) (by decide +kernel)) (by decide +kernel)
theorem w_inst_X7_rate : Cond.instanceMethod yX7_rate ∈ gtbl := gmem (List.mem_of_getElem? (i := 993) (by decide +kernel)) (by decide +kernel)
theorem w_sel_X7_rate : Cond.selects RX7 yX7_rate yX7_rate ∈ gtbl := gmem (List.mem_of_getElem? (i := 994) (by decide +kernel)) (by decide +kernel)
theorem w_code_X7_rate : Cond.code yX7_rate cX7_rate 3 (some .int) ∈ gtbl := gmem (List.mem_of_getElem? (i := 995) (by decide +kernel)) (by decide +kernel)
theorem v_X7_268 : Cond.constant RX7 268 (-1000000) ∈ gtbl := gmem (List.mem_of_getElem? (i := 996) (by decide +kernel)) (by decide +kernel)
theorem l_X7_263 : Cond.methodLink RX7 263 yX7_asGoer ∈ gtbl := gmem (List.mem_of_getElem? (i := 997) (by decide +kernel)) (by decide +kernel)
theorem w_inst_X7_asGoer : Cond.instanceMethod yX7_asGoer ∈ gtbl := gmem (List.mem_of_getElem? (i := 999) (by decide +kernel)) (by decide +kernel)
theorem w_code_X7_asGoer : Cond.code yX7_asGoer cX7_asGoer 2 (some .int) ∈ gtbl := gmem (List.mem_of_getElem? (i := 1000) (by decide +kernel)) (by decide +kernel)
theorem l_X7_269 : Cond.methodLink RX7 269 yX7_asGent ∈ gtbl := gmem (List.mem_of_getElem? (i := 1001) (by decide +kernel)) (by decide +kernel)
theorem w_inst_X7_asGent : Cond.instanceMethod yX7_asGent ∈ gtbl := gmem (List.mem_of_getElem? (i := 1003) (by decide +kernel)) (by decide +kernel)
theorem w_code_X7_asGent : Cond.code yX7_asGent cX7_asGent 2 (some .int) ∈ gtbl := gmem (List.mem_of_getElem? (i := 1004) (by decide +kernel)) (by decide +kernel)
theorem l_X7_272 : Cond.methodLink RX7 272 yX7_asDoctor ∈ gtbl := gmem (List.mem_of_getElem? (i := 1005) (by decide +kernel)) (by decide +kernel)
theorem w_inst_X7_asDoctor : Cond.instanceMethod yX7_asDoctor ∈ gtbl := gmem (List.mem_of_getElem? (i := 1007) (by decide +kernel)) (by decide +kernel)
theorem w_code_X7_asDoctor : Cond.code yX7_asDoctor cX7_asDoctor 2 (some .int) ∈ gtbl := gmem (List.mem_of_getElem? (i := 1008) (by decide +kernel)) (by decide +kernel)
theorem v_X7_266 : Cond.constantLong RX7 266 (100) ∈ gtbl := gmem (List.mem_of_getElem? (i := 1009) (by decide +kernel)) (by decide +kernel)
theorem v_X7_275 : Cond.constantLong RX7 275 (1000) ∈ gtbl := gmem (List.mem_of_getElem? (i := 1010) (by decide +kernel)) (by decide +kernel)
theorem v_X7_277 : Cond.constantLong RX7 277 (10000) ∈ gtbl := gmem (List.mem_of_getElem? (i := 1011) (by decide +kernel)) (by decide +kernel)
theorem v_X7_279 : Cond.constantLong RX7 279 (100000) ∈ gtbl := gmem (List.mem_of_getElem? (i := 1012) (by decide +kernel)) (by decide +kernel)
theorem l_L_109 : Cond.methodLink RL 109 yX7_keep ∈ gtbl := gmem (List.mem_of_getElem? (i := 1013) (by decide +kernel)) (by decide +kernel)
theorem w_inst_X7_keep : Cond.instanceMethod yX7_keep ∈ gtbl := gmem (List.mem_of_getElem? (i := 1014) (by decide +kernel)) (by decide +kernel)
theorem w_sel_X7_keep : Cond.selects RX7 yX7_keep yX7_keep ∈ gtbl := gmem (List.mem_of_getElem? (i := 1015) (by decide +kernel)) (by decide +kernel)
theorem w_code_X7_keep : Cond.code yX7_keep cX7_keep 2 (some .int) ∈ gtbl := gmem (List.mem_of_getElem? (i := 1016) (by decide +kernel)) (by decide +kernel)
theorem l_L_113 : Cond.methodLink RL 113 yX7_back ∈ gtbl := gmem (List.mem_of_getElem? (i := 1017) (by decide +kernel)) (by decide +kernel)
theorem w_inst_X7_back : Cond.instanceMethod yX7_back ∈ gtbl := gmem (List.mem_of_getElem? (i := 1018) (by decide +kernel)) (by decide +kernel)
theorem w_sel_X7_back : Cond.selects RX7 yX7_back yX7_back ∈ gtbl := gmem (List.mem_of_getElem? (i := 1019) (by decide +kernel)) (by decide +kernel)
theorem w_code_X7_back : Cond.code yX7_back cX7_back 2 (some .int) ∈ gtbl := gmem (List.mem_of_getElem? (i := 1020) (by decide +kernel)) (by decide +kernel)
theorem l_L_117 : Cond.methodLink RL 117 yX7_count ∈ gtbl := gmem (List.mem_of_getElem? (i := 1021) (by decide +kernel)) (by decide +kernel)
theorem w_inst_X7_count : Cond.instanceMethod yX7_count ∈ gtbl := gmem (List.mem_of_getElem? (i := 1022) (by decide +kernel)) (by decide +kernel)
theorem w_sel_X7_count : Cond.selects RX7 yX7_count yX7_count ∈ gtbl := gmem (List.mem_of_getElem? (i := 1023) (by decide +kernel)) (by decide +kernel)
theorem w_code_X7_count : Cond.code yX7_count cX7_count 2 (some .int) ∈ gtbl := gmem (List.mem_of_getElem? (i := 1024) (by decide +kernel)) (by decide +kernel)
theorem l_L_122 : Cond.methodLink RL 122 yX7_trace ∈ gtbl := gmem (List.mem_of_getElem? (i := 1025) (by decide +kernel)) (by decide +kernel)
theorem w_inst_X7_trace : Cond.instanceMethod yX7_trace ∈ gtbl := gmem (List.mem_of_getElem? (i := 1026) (by decide +kernel)) (by decide +kernel)
theorem w_sel_X7_trace : Cond.selects RX7 yX7_trace yX7_trace ∈ gtbl := gmem (List.mem_of_getElem? (i := 1027) (by decide +kernel)) (by decide +kernel)
theorem w_code_X7_trace : Cond.code yX7_trace cX7_trace 1 (some .long) ∈ gtbl := gmem (List.mem_of_getElem? (i := 1028) (by decide +kernel)) (by decide +kernel)
theorem w_sel_X5_step : Cond.selects RX5 yX5_step yX5_step ∈ gtbl := gmem (List.mem_of_getElem? (i := 0) (by decide +kernel)) (by decide +kernel)
theorem w_sel_X5_isLetter : Cond.selects RX5 yX5_isLetter yX5_isLetter ∈ gtbl := gmem (List.mem_of_getElem? (i := 1) (by decide +kernel)) (by decide +kernel)
theorem w_sel_X5_takeWord : Cond.selects RX5 yX5_takeWord yX5_takeWord ∈ gtbl := gmem (List.mem_of_getElem? (i := 2) (by decide +kernel)) (by decide +kernel)
theorem w_sel_X5_isDigit : Cond.selects RX5 yX5_isDigit yX5_isDigit ∈ gtbl := gmem (List.mem_of_getElem? (i := 3) (by decide +kernel)) (by decide +kernel)
theorem w_sel_X5_takeNumber : Cond.selects RX5 yX5_takeNumber yX5_takeNumber ∈ gtbl := gmem (List.mem_of_getElem? (i := 4) (by decide +kernel)) (by decide +kernel)
theorem w_sel_X5_readItem : Cond.selects RX5 yX5_readItem yX5_readItem ∈ gtbl := gmem (List.mem_of_getElem? (i := 5) (by decide +kernel)) (by decide +kernel)
theorem w_sel_X5_readLeaf : Cond.selects RX5 yX5_readLeaf yX5_readLeaf ∈ gtbl := gmem (List.mem_of_getElem? (i := 6) (by decide +kernel)) (by decide +kernel)
theorem w_sel_X5_readTastes : Cond.selects RX5 yX5_readTastes yX5_readTastes ∈ gtbl := gmem (List.mem_of_getElem? (i := 7) (by decide +kernel)) (by decide +kernel)
theorem w_sel_X5_isRow : Cond.selects RX5 yX5_isRow yX5_isRow ∈ gtbl := gmem (List.mem_of_getElem? (i := 8) (by decide +kernel)) (by decide +kernel)
theorem w_sel_X5_rowBits : Cond.selects RX5 yX5_rowBits yX5_rowBits ∈ gtbl := gmem (List.mem_of_getElem? (i := 9) (by decide +kernel)) (by decide +kernel)
theorem w_sel_X5_readGoer : Cond.selects RX5 yX5_readGoer yX5_readGoer ∈ gtbl := gmem (List.mem_of_getElem? (i := 10) (by decide +kernel)) (by decide +kernel)
theorem w_sel_X5_readSister : Cond.selects RX5 yX5_readSister yX5_readSister ∈ gtbl := gmem (List.mem_of_getElem? (i := 11) (by decide +kernel)) (by decide +kernel)
theorem w_sel_X5_readFriday : Cond.selects RX5 yX5_readFriday yX5_readFriday ∈ gtbl := gmem (List.mem_of_getElem? (i := 12) (by decide +kernel)) (by decide +kernel)
theorem w_sel_X5_isNumber : Cond.selects RX5 yX5_isNumber yX5_isNumber ∈ gtbl := gmem (List.mem_of_getElem? (i := 13) (by decide +kernel)) (by decide +kernel)
theorem w_sel_X5_number : Cond.selects RX5 yX5_number yX5_number ∈ gtbl := gmem (List.mem_of_getElem? (i := 14) (by decide +kernel)) (by decide +kernel)
theorem w_sel_X5_readLane : Cond.selects RX5 yX5_readLane yX5_readLane ∈ gtbl := gmem (List.mem_of_getElem? (i := 15) (by decide +kernel)) (by decide +kernel)
theorem w_sel_X0_coversAll : Cond.selects RX0 yX0_coversAll yX0_coversAll ∈ gtbl := gmem (List.mem_of_getElem? (i := 16) (by decide +kernel)) (by decide +kernel)
theorem w_sel_X2_mostBehind : Cond.selects RX2 yX2_mostBehind yX2_mostBehind ∈ gtbl := gmem (List.mem_of_getElem? (i := 17) (by decide +kernel)) (by decide +kernel)
theorem w_sel_X2_worth : Cond.selects RX2 yX2_worth yX2_worth ∈ gtbl := gmem (List.mem_of_getElem? (i := 18) (by decide +kernel)) (by decide +kernel)
theorem w_sel_X2_lowestOfBest : Cond.selects RX2 yX2_lowestOfBest yX2_lowestOfBest ∈ gtbl := gmem (List.mem_of_getElem? (i := 19) (by decide +kernel)) (by decide +kernel)
theorem w_sel_X6_setsLetBy : Cond.selects RX6 yX6_setsLetBy yX6_setsLetBy ∈ gtbl := gmem (List.mem_of_getElem? (i := 20) (by decide +kernel)) (by decide +kernel)
theorem w_sel_X0_dayOfFriday : Cond.selects RX0 yX0_dayOfFriday yX0_dayOfFriday ∈ gtbl := gmem (List.mem_of_getElem? (i := 21) (by decide +kernel)) (by decide +kernel)
theorem w_sel_X6_rateAsGoer : Cond.selects RX6 yX6_rateAsGoer yX6_rateAsGoer ∈ gtbl := gmem (List.mem_of_getElem? (i := 22) (by decide +kernel)) (by decide +kernel)
theorem w_sel_X6_rateAsGent : Cond.selects RX6 yX6_rateAsGent yX6_rateAsGent ∈ gtbl := gmem (List.mem_of_getElem? (i := 23) (by decide +kernel)) (by decide +kernel)
theorem w_sel_X6_rateAsDoctor : Cond.selects RX6 yX6_rateAsDoctor yX6_rateAsDoctor ∈ gtbl := gmem (List.mem_of_getElem? (i := 24) (by decide +kernel)) (by decide +kernel)
theorem w_sel_X6_rateAsSamples : Cond.selects RX6 yX6_rateAsSamples yX6_rateAsSamples ∈ gtbl := gmem (List.mem_of_getElem? (i := 25) (by decide +kernel)) (by decide +kernel)
theorem w_sel_X6_rateAsWife : Cond.selects RX6 yX6_rateAsWife yX6_rateAsWife ∈ gtbl := gmem (List.mem_of_getElem? (i := 26) (by decide +kernel)) (by decide +kernel)
theorem w_sel_X6_rateAsTall : Cond.selects RX6 yX6_rateAsTall yX6_rateAsTall ∈ gtbl := gmem (List.mem_of_getElem? (i := 27) (by decide +kernel)) (by decide +kernel)
theorem w_sel_X7_reads : Cond.selects RX7 yX7_reads yX7_reads ∈ gtbl := gmem (List.mem_of_getElem? (i := 28) (by decide +kernel)) (by decide +kernel)
theorem w_sel_X7_step : Cond.selects RX7 yX7_step yX7_step ∈ gtbl := gmem (List.mem_of_getElem? (i := 29) (by decide +kernel)) (by decide +kernel)
theorem w_sel_X7_here : Cond.selects RX7 yX7_here yX7_here ∈ gtbl := gmem (List.mem_of_getElem? (i := 30) (by decide +kernel)) (by decide +kernel)
theorem w_sel_X7_isLetter : Cond.selects RX7 yX7_isLetter yX7_isLetter ∈ gtbl := gmem (List.mem_of_getElem? (i := 31) (by decide +kernel)) (by decide +kernel)
theorem w_sel_X7_isFigure : Cond.selects RX7 yX7_isFigure yX7_isFigure ∈ gtbl := gmem (List.mem_of_getElem? (i := 32) (by decide +kernel)) (by decide +kernel)
theorem w_sel_X7_readsFigures : Cond.selects RX7 yX7_readsFigures yX7_readsFigures ∈ gtbl := gmem (List.mem_of_getElem? (i := 33) (by decide +kernel)) (by decide +kernel)
theorem w_sel_X7_isItem : Cond.selects RX7 yX7_isItem yX7_isItem ∈ gtbl := gmem (List.mem_of_getElem? (i := 34) (by decide +kernel)) (by decide +kernel)
theorem w_sel_X7_isLeaf : Cond.selects RX7 yX7_isLeaf yX7_isLeaf ∈ gtbl := gmem (List.mem_of_getElem? (i := 35) (by decide +kernel)) (by decide +kernel)
theorem w_sel_X7_row : Cond.selects RX7 yX7_row yX7_row ∈ gtbl := gmem (List.mem_of_getElem? (i := 36) (by decide +kernel)) (by decide +kernel)
theorem w_sel_X7_isGoer : Cond.selects RX7 yX7_isGoer yX7_isGoer ∈ gtbl := gmem (List.mem_of_getElem? (i := 37) (by decide +kernel)) (by decide +kernel)
theorem w_sel_X7_isSister : Cond.selects RX7 yX7_isSister yX7_isSister ∈ gtbl := gmem (List.mem_of_getElem? (i := 38) (by decide +kernel)) (by decide +kernel)
theorem w_sel_X7_isFriday : Cond.selects RX7 yX7_isFriday yX7_isFriday ∈ gtbl := gmem (List.mem_of_getElem? (i := 39) (by decide +kernel)) (by decide +kernel)
theorem w_sel_X7_number : Cond.selects RX7 yX7_number yX7_number ∈ gtbl := gmem (List.mem_of_getElem? (i := 40) (by decide +kernel)) (by decide +kernel)
theorem w_sel_X7_isLane : Cond.selects RX7 yX7_isLane yX7_isLane ∈ gtbl := gmem (List.mem_of_getElem? (i := 41) (by decide +kernel)) (by decide +kernel)
theorem w_sel_X7_isTheLeaf : Cond.selects RX7 yX7_isTheLeaf yX7_isTheLeaf ∈ gtbl := gmem (List.mem_of_getElem? (i := 42) (by decide +kernel)) (by decide +kernel)
theorem w_sel_X7_letsBy : Cond.selects RX7 yX7_letsBy yX7_letsBy ∈ gtbl := gmem (List.mem_of_getElem? (i := 43) (by decide +kernel)) (by decide +kernel)
theorem w_sel_X7_lets : Cond.selects RX7 yX7_lets yX7_lets ∈ gtbl := gmem (List.mem_of_getElem? (i := 44) (by decide +kernel)) (by decide +kernel)
theorem w_sel_X7_isOne : Cond.selects RX7 yX7_isOne yX7_isOne ∈ gtbl := gmem (List.mem_of_getElem? (i := 45) (by decide +kernel)) (by decide +kernel)
theorem w_sel_X7_leavesOf : Cond.selects RX7 yX7_leavesOf yX7_leavesOf ∈ gtbl := gmem (List.mem_of_getElem? (i := 46) (by decide +kernel)) (by decide +kernel)
theorem w_sel_X7_those : Cond.selects RX7 yX7_those yX7_those ∈ gtbl := gmem (List.mem_of_getElem? (i := 47) (by decide +kernel)) (by decide +kernel)
theorem w_sel_X7_cover : Cond.selects RX7 yX7_cover yX7_cover ∈ gtbl := gmem (List.mem_of_getElem? (i := 48) (by decide +kernel)) (by decide +kernel)
theorem w_sel_X7_notes : Cond.selects RX7 yX7_notes yX7_notes ∈ gtbl := gmem (List.mem_of_getElem? (i := 49) (by decide +kernel)) (by decide +kernel)
theorem w_sel_X7_nextOrder : Cond.selects RX7 yX7_nextOrder yX7_nextOrder ∈ gtbl := gmem (List.mem_of_getElem? (i := 50) (by decide +kernel)) (by decide +kernel)
theorem w_sel_X7_canHave : Cond.selects RX7 yX7_canHave yX7_canHave ∈ gtbl := gmem (List.mem_of_getElem? (i := 51) (by decide +kernel)) (by decide +kernel)
theorem w_sel_X7_isTold : Cond.selects RX7 yX7_isTold yX7_isTold ∈ gtbl := gmem (List.mem_of_getElem? (i := 52) (by decide +kernel)) (by decide +kernel)
theorem w_sel_X7_taleOf : Cond.selects RX7 yX7_taleOf yX7_taleOf ∈ gtbl := gmem (List.mem_of_getElem? (i := 53) (by decide +kernel)) (by decide +kernel)
theorem w_sel_X7_asGoer : Cond.selects RX7 yX7_asGoer yX7_asGoer ∈ gtbl := gmem (List.mem_of_getElem? (i := 54) (by decide +kernel)) (by decide +kernel)
theorem w_sel_X7_asGent : Cond.selects RX7 yX7_asGent yX7_asGent ∈ gtbl := gmem (List.mem_of_getElem? (i := 55) (by decide +kernel)) (by decide +kernel)
theorem w_sel_X7_asDoctor : Cond.selects RX7 yX7_asDoctor yX7_asDoctor ∈ gtbl := gmem (List.mem_of_getElem? (i := 56) (by decide +kernel)) (by decide +kernel)
theorem h_X0_init : MN mi_X0_init 0 := ⟨⟨w_code_X0_init, w_ini_RX0, by decide +kernel, by decide +kernel, by decide +kernel⟩, rfl, w_inst_X0_init, rfl⟩
theorem h_X0_startAnew : MV mi_X0_startAnew 0 := ⟨⟨w_code_X0_startAnew, w_ini_RX0, by decide +kernel, by decide +kernel, by decide +kernel⟩, w_inst_X0_startAnew, w_sel_X0_startAnew⟩
theorem h_X0_hasLeaf : MV mi_X0_hasLeaf 1 := ⟨⟨w_code_X0_hasLeaf, w_ini_RX0, by decide +kernel, by decide +kernel, by decide +kernel⟩, w_inst_X0_hasLeaf, w_sel_X0_hasLeaf⟩
theorem h_X0_hasGoer : MV mi_X0_hasGoer 1 := ⟨⟨w_code_X0_hasGoer, w_ini_RX0, by decide +kernel, by decide +kernel, by decide +kernel⟩, w_inst_X0_hasGoer, w_sel_X0_hasGoer⟩
theorem h_X0_counts : MV mi_X0_counts 2 := ⟨⟨w_code_X0_counts, w_ini_RX0, by decide +kernel, by decide +kernel, by decide +kernel⟩, w_inst_X0_counts, w_sel_X0_counts⟩
theorem h_X0_goodTastes : MV mi_X0_goodTastes 2 := ⟨⟨w_code_X0_goodTastes, w_ini_RX0, by decide +kernel, by decide +kernel, by decide +kernel⟩, w_inst_X0_goodTastes, w_sel_X0_goodTastes⟩
theorem h_X0_goersLetBy : MV mi_X0_goersLetBy 1 := ⟨⟨w_code_X0_goersLetBy, w_ini_RX0, by decide +kernel, by decide +kernel, by decide +kernel⟩, w_inst_X0_goersLetBy, w_sel_X0_goersLetBy⟩
theorem h_X0_leavesThatLet : MV mi_X0_leavesThatLet 1 := ⟨⟨w_code_X0_leavesThatLet, w_ini_RX0, by decide +kernel, by decide +kernel, by decide +kernel⟩, w_inst_X0_leavesThatLet, w_sel_X0_leavesThatLet⟩
theorem h_X0_leafBehind : MV mi_X0_leafBehind 2 := ⟨⟨w_code_X0_leafBehind, w_ini_RX0, by decide +kernel, by decide +kernel, by decide +kernel⟩, w_inst_X0_leafBehind, w_sel_X0_leafBehind⟩
theorem h_X0_cover : MV mi_X0_cover 0 := ⟨⟨w_code_X0_cover, w_ini_RX0, by decide +kernel, by decide +kernel, by decide +kernel⟩, w_inst_X0_cover, w_sel_X0_cover⟩
theorem h_X0_coversAll : MV mi_X0_coversAll 1 := ⟨⟨w_code_X0_coversAll, w_ini_RX0, by decide +kernel, by decide +kernel, by decide +kernel⟩, w_inst_X0_coversAll, w_sel_X0_coversAll⟩
theorem h_X0_changed : MV mi_X0_changed 2 := ⟨⟨w_code_X0_changed, w_ini_RX0, by decide +kernel, by decide +kernel, by decide +kernel⟩, w_inst_X0_changed, w_sel_X0_changed⟩
theorem h_X0_passedOn : MV mi_X0_passedOn 2 := ⟨⟨w_code_X0_passedOn, w_ini_RX0, by decide +kernel, by decide +kernel, by decide +kernel⟩, w_inst_X0_passedOn, w_sel_X0_passedOn⟩
theorem h_X0_dayOfAllFridays : MV mi_X0_dayOfAllFridays 1 := ⟨⟨w_code_X0_dayOfAllFridays, w_ini_RX0, by decide +kernel, by decide +kernel, by decide +kernel⟩, w_inst_X0_dayOfAllFridays, w_sel_X0_dayOfAllFridays⟩
theorem h_X0_dayOfFriday : MV mi_X0_dayOfFriday 3 := ⟨⟨w_code_X0_dayOfFriday, w_ini_RX0, by decide +kernel, by decide +kernel, by decide +kernel⟩, w_inst_X0_dayOfFriday, w_sel_X0_dayOfFriday⟩
theorem h_X1_init : MN mi_X1_init 0 := ⟨⟨w_code_X1_init, w_ini_RX1, by decide +kernel, by decide +kernel, by decide +kernel⟩, rfl, w_inst_X1_init, rfl⟩
theorem h_X1_remember : MV mi_X1_remember 1 := ⟨⟨w_code_X1_remember, w_ini_RX1, by decide +kernel, by decide +kernel, by decide +kernel⟩, w_inst_X1_remember, w_sel_X1_remember⟩
theorem h_X1_recall : MV mi_X1_recall 1 := ⟨⟨w_code_X1_recall, w_ini_RX1, by decide +kernel, by decide +kernel, by decide +kernel⟩, w_inst_X1_recall, w_sel_X1_recall⟩
theorem h_X2_init : MN mi_X2_init 0 := ⟨⟨w_code_X2_init, w_ini_RX2, by decide +kernel, by decide +kernel, by decide +kernel⟩, rfl, w_inst_X2_init, rfl⟩
theorem h_X2_weigh : MV mi_X2_weigh 2 := ⟨⟨w_code_X2_weigh, w_ini_RX2, by decide +kernel, by decide +kernel, by decide +kernel⟩, w_inst_X2_weigh, w_sel_X2_weigh⟩
theorem h_X2_mostBehind : MV mi_X2_mostBehind 4 := ⟨⟨w_code_X2_mostBehind, w_ini_RX2, by decide +kernel, by decide +kernel, by decide +kernel⟩, w_inst_X2_mostBehind, w_sel_X2_mostBehind⟩
theorem h_X2_worth : MV mi_X2_worth 4 := ⟨⟨w_code_X2_worth, w_ini_RX2, by decide +kernel, by decide +kernel, by decide +kernel⟩, w_inst_X2_worth, w_sel_X2_worth⟩
theorem h_X2_goerAt : MV mi_X2_goerAt 3 := ⟨⟨w_code_X2_goerAt, w_ini_RX2, by decide +kernel, by decide +kernel, by decide +kernel⟩, w_inst_X2_goerAt, w_sel_X2_goerAt⟩
theorem h_X2_lowestOfBest : MV mi_X2_lowestOfBest 4 := ⟨⟨w_code_X2_lowestOfBest, w_ini_RX2, by decide +kernel, by decide +kernel, by decide +kernel⟩, w_inst_X2_lowestOfBest, w_sel_X2_lowestOfBest⟩
theorem h_X3_init : MN mi_X3_init 0 := ⟨⟨w_code_X3_init, w_ini_RX3, by decide +kernel, by decide +kernel, by decide +kernel⟩, rfl, w_inst_X3_init, rfl⟩
theorem h_X3_startAnew : MV mi_X3_startAnew 0 := ⟨⟨w_code_X3_startAnew, w_ini_RX3, by decide +kernel, by decide +kernel, by decide +kernel⟩, w_inst_X3_startAnew, w_sel_X3_startAnew⟩
theorem h_X3_become : MV mi_X3_become 1 := ⟨⟨w_code_X3_become, w_ini_RX3, by decide +kernel, by decide +kernel, by decide +kernel⟩, w_inst_X3_become, w_sel_X3_become⟩
theorem h_X3_whoAre : MV mi_X3_whoAre 1 := ⟨⟨w_code_X3_whoAre, w_ini_RX3, by decide +kernel, by decide +kernel, by decide +kernel⟩, w_inst_X3_whoAre, w_sel_X3_whoAre⟩
theorem h_X3_sendRound : MV mi_X3_sendRound 2 := ⟨⟨w_code_X3_sendRound, w_ini_RX3, by decide +kernel, by decide +kernel, by decide +kernel⟩, w_inst_X3_sendRound, w_sel_X3_sendRound⟩
theorem h_X3_pass : MV mi_X3_pass 1 := ⟨⟨w_code_X3_pass, w_ini_RX3, by decide +kernel, by decide +kernel, by decide +kernel⟩, w_inst_X3_pass, w_sel_X3_pass⟩
theorem h_X4_init : MN mi_X4_init 0 := ⟨⟨w_code_X4_init, w_ini_RX4, by decide +kernel, by decide +kernel, by decide +kernel⟩, rfl, w_inst_X4_init, rfl⟩
theorem h_X4_add : MV mi_X4_add 3 := ⟨⟨w_code_X4_add, w_ini_RX4, by decide +kernel, by decide +kernel, by decide +kernel⟩, w_inst_X4_add, w_sel_X4_add⟩
theorem h_X4_allows : MV mi_X4_allows 2 := ⟨⟨w_code_X4_allows, w_ini_RX4, by decide +kernel, by decide +kernel, by decide +kernel⟩, w_inst_X4_allows, w_sel_X4_allows⟩
theorem h_X5_init : MN mi_X5_init 0 := ⟨⟨w_code_X5_init, w_ini_RX5, by decide +kernel, by decide +kernel, by decide +kernel⟩, rfl, w_inst_X5_init, rfl⟩
theorem h_X5_readInto : MV mi_X5_readInto 1 := ⟨⟨w_code_X5_readInto, w_ini_RX5, by decide +kernel, by decide +kernel, by decide +kernel⟩, w_inst_X5_readInto, w_sel_X5_readInto⟩
theorem h_X5_readItem : MV mi_X5_readItem 1 := ⟨⟨w_code_X5_readItem, w_ini_RX5, by decide +kernel, by decide +kernel, by decide +kernel⟩, w_inst_X5_readItem, w_sel_X5_readItem⟩
theorem h_X5_readLeaf : MV mi_X5_readLeaf 1 := ⟨⟨w_code_X5_readLeaf, w_ini_RX5, by decide +kernel, by decide +kernel, by decide +kernel⟩, w_inst_X5_readLeaf, w_sel_X5_readLeaf⟩
theorem h_X5_readGoer : MV mi_X5_readGoer 1 := ⟨⟨w_code_X5_readGoer, w_ini_RX5, by decide +kernel, by decide +kernel, by decide +kernel⟩, w_inst_X5_readGoer, w_sel_X5_readGoer⟩
theorem h_X5_readTastes : MV mi_X5_readTastes 2 := ⟨⟨w_code_X5_readTastes, w_ini_RX5, by decide +kernel, by decide +kernel, by decide +kernel⟩, w_inst_X5_readTastes, w_sel_X5_readTastes⟩
theorem h_X5_readSister : MV mi_X5_readSister 1 := ⟨⟨w_code_X5_readSister, w_ini_RX5, by decide +kernel, by decide +kernel, by decide +kernel⟩, w_inst_X5_readSister, w_sel_X5_readSister⟩
theorem h_X5_readFriday : MV mi_X5_readFriday 1 := ⟨⟨w_code_X5_readFriday, w_ini_RX5, by decide +kernel, by decide +kernel, by decide +kernel⟩, w_inst_X5_readFriday, w_sel_X5_readFriday⟩
theorem h_X5_readLane : MV mi_X5_readLane 1 := ⟨⟨w_code_X5_readLane, w_ini_RX5, by decide +kernel, by decide +kernel, by decide +kernel⟩, w_inst_X5_readLane, w_sel_X5_readLane⟩
theorem h_X5_isRow : MV mi_X5_isRow 1 := ⟨⟨w_code_X5_isRow, w_ini_RX5, by decide +kernel, by decide +kernel, by decide +kernel⟩, w_inst_X5_isRow, w_sel_X5_isRow⟩
theorem h_X5_rowBits : MV mi_X5_rowBits 0 := ⟨⟨w_code_X5_rowBits, w_ini_RX5, by decide +kernel, by decide +kernel, by decide +kernel⟩, w_inst_X5_rowBits, w_sel_X5_rowBits⟩
theorem h_X5_isNumber : MV mi_X5_isNumber 2 := ⟨⟨w_code_X5_isNumber, w_ini_RX5, by decide +kernel, by decide +kernel, by decide +kernel⟩, w_inst_X5_isNumber, w_sel_X5_isNumber⟩
theorem h_X5_number : MV mi_X5_number 0 := ⟨⟨w_code_X5_number, w_ini_RX5, by decide +kernel, by decide +kernel, by decide +kernel⟩, w_inst_X5_number, w_sel_X5_number⟩
theorem h_X5_step : MV mi_X5_step 0 := ⟨⟨w_code_X5_step, w_ini_RX5, by decide +kernel, by decide +kernel, by decide +kernel⟩, w_inst_X5_step, w_sel_X5_step⟩
theorem h_X5_takeWord : MV mi_X5_takeWord 0 := ⟨⟨w_code_X5_takeWord, w_ini_RX5, by decide +kernel, by decide +kernel, by decide +kernel⟩, w_inst_X5_takeWord, w_sel_X5_takeWord⟩
theorem h_X5_takeNumber : MV mi_X5_takeNumber 0 := ⟨⟨w_code_X5_takeNumber, w_ini_RX5, by decide +kernel, by decide +kernel, by decide +kernel⟩, w_inst_X5_takeNumber, w_sel_X5_takeNumber⟩
theorem h_X5_isLetter : MV mi_X5_isLetter 1 := ⟨⟨w_code_X5_isLetter, w_ini_RX5, by decide +kernel, by decide +kernel, by decide +kernel⟩, w_inst_X5_isLetter, w_sel_X5_isLetter⟩
theorem h_X5_isDigit : MV mi_X5_isDigit 1 := ⟨⟨w_code_X5_isDigit, w_ini_RX5, by decide +kernel, by decide +kernel, by decide +kernel⟩, w_inst_X5_isDigit, w_sel_X5_isDigit⟩
theorem h_X6_init : MN mi_X6_init 0 := ⟨⟨w_code_X6_init, w_ini_RX6, by decide +kernel, by decide +kernel, by decide +kernel⟩, rfl, w_inst_X6_init, rfl⟩
theorem h_X6_type : MV mi_X6_type 1 := ⟨⟨w_code_X6_type, w_ini_RX6, by decide +kernel, by decide +kernel, by decide +kernel⟩, w_inst_X6_type, w_sel_X6_type⟩
theorem h_X6_clear : MV mi_X6_clear 0 := ⟨⟨w_code_X6_clear, w_ini_RX6, by decide +kernel, by decide +kernel, by decide +kernel⟩, w_inst_X6_clear, w_sel_X6_clear⟩
theorem h_X6_court : MV mi_X6_court 0 := ⟨⟨w_code_X6_court, w_ini_RX6, by decide +kernel, by decide +kernel, by decide +kernel⟩, w_inst_X6_court, w_sel_X6_court⟩
theorem h_X6_leaf : MV mi_X6_leaf 2 := ⟨⟨w_code_X6_leaf, w_ini_RX6, by decide +kernel, by decide +kernel, by decide +kernel⟩, w_inst_X6_leaf, w_sel_X6_leaf⟩
theorem h_X6_goer : MV mi_X6_goer 2 := ⟨⟨w_code_X6_goer, w_ini_RX6, by decide +kernel, by decide +kernel, by decide +kernel⟩, w_inst_X6_goer, w_sel_X6_goer⟩
theorem h_X6_sister : MV mi_X6_sister 2 := ⟨⟨w_code_X6_sister, w_ini_RX6, by decide +kernel, by decide +kernel, by decide +kernel⟩, w_inst_X6_sister, w_sel_X6_sister⟩
theorem h_X6_now : MV mi_X6_now 1 := ⟨⟨w_code_X6_now, w_ini_RX6, by decide +kernel, by decide +kernel, by decide +kernel⟩, w_inst_X6_now, w_sel_X6_now⟩
theorem h_X6_comes : MV mi_X6_comes 1 := ⟨⟨w_code_X6_comes, w_ini_RX6, by decide +kernel, by decide +kernel, by decide +kernel⟩, w_inst_X6_comes, w_sel_X6_comes⟩
theorem h_X6_says : MV mi_X6_says 2 := ⟨⟨w_code_X6_says, w_ini_RX6, by decide +kernel, by decide +kernel, by decide +kernel⟩, w_inst_X6_says, w_sel_X6_says⟩
theorem h_X6_minutes : MV mi_X6_minutes 1 := ⟨⟨w_code_X6_minutes, w_ini_RX6, by decide +kernel, by decide +kernel, by decide +kernel⟩, w_inst_X6_minutes, w_sel_X6_minutes⟩
theorem h_X6_undo : MV mi_X6_undo 0 := ⟨⟨w_code_X6_undo, w_ini_RX6, by decide +kernel, by decide +kernel, by decide +kernel⟩, w_inst_X6_undo, w_sel_X6_undo⟩
theorem h_X6_fewest : MV mi_X6_fewest 2 := ⟨⟨w_code_X6_fewest, w_ini_RX6, by decide +kernel, by decide +kernel, by decide +kernel⟩, w_inst_X6_fewest, w_sel_X6_fewest⟩
theorem h_X6_line : MV mi_X6_line 1 := ⟨⟨w_code_X6_line, w_ini_RX6, by decide +kernel, by decide +kernel, by decide +kernel⟩, w_inst_X6_line, w_sel_X6_line⟩
theorem h_X6_sees : MV mi_X6_sees 3 := ⟨⟨w_code_X6_sees, w_ini_RX6, by decide +kernel, by decide +kernel, by decide +kernel⟩, w_inst_X6_sees, w_sel_X6_sees⟩
theorem h_X6_forget : MV mi_X6_forget 0 := ⟨⟨w_code_X6_forget, w_ini_RX6, by decide +kernel, by decide +kernel, by decide +kernel⟩, w_inst_X6_forget, w_sel_X6_forget⟩
theorem h_X6_had : MV mi_X6_had 1 := ⟨⟨w_code_X6_had, w_ini_RX6, by decide +kernel, by decide +kernel, by decide +kernel⟩, w_inst_X6_had, w_sel_X6_had⟩
theorem h_X6_ask : MV mi_X6_ask 1 := ⟨⟨w_code_X6_ask, w_ini_RX6, by decide +kernel, by decide +kernel, by decide +kernel⟩, w_inst_X6_ask, w_sel_X6_ask⟩
theorem h_X6_setsLetBy : MV mi_X6_setsLetBy 2 := ⟨⟨w_code_X6_setsLetBy, w_ini_RX6, by decide +kernel, by decide +kernel, by decide +kernel⟩, w_inst_X6_setsLetBy, w_sel_X6_setsLetBy⟩
theorem h_X6_tale : MV mi_X6_tale 2 := ⟨⟨w_code_X6_tale, w_ini_RX6, by decide +kernel, by decide +kernel, by decide +kernel⟩, w_inst_X6_tale, w_sel_X6_tale⟩
theorem h_X6_first : MV mi_X6_first 2 := ⟨⟨w_code_X6_first, w_ini_RX6, by decide +kernel, by decide +kernel, by decide +kernel⟩, w_inst_X6_first, w_sel_X6_first⟩
theorem h_X6_when : MV mi_X6_when 1 := ⟨⟨w_code_X6_when, w_ini_RX6, by decide +kernel, by decide +kernel, by decide +kernel⟩, w_inst_X6_when, w_sel_X6_when⟩
theorem h_X6_odds : MV mi_X6_odds 4 := ⟨⟨w_code_X6_odds, w_ini_RX6, by decide +kernel, by decide +kernel, by decide +kernel⟩, w_inst_X6_odds, w_sel_X6_odds⟩
theorem h_X6_rate : MV mi_X6_rate 2 := ⟨⟨w_code_X6_rate, w_ini_RX6, by decide +kernel, by decide +kernel, by decide +kernel⟩, w_inst_X6_rate, w_sel_X6_rate⟩
theorem h_X6_rateAsGoer : MV mi_X6_rateAsGoer 1 := ⟨⟨w_code_X6_rateAsGoer, w_ini_RX6, by decide +kernel, by decide +kernel, by decide +kernel⟩, w_inst_X6_rateAsGoer, w_sel_X6_rateAsGoer⟩
theorem h_X6_rateAsGent : MV mi_X6_rateAsGent 1 := ⟨⟨w_code_X6_rateAsGent, w_ini_RX6, by decide +kernel, by decide +kernel, by decide +kernel⟩, w_inst_X6_rateAsGent, w_sel_X6_rateAsGent⟩
theorem h_X6_rateAsDoctor : MV mi_X6_rateAsDoctor 1 := ⟨⟨w_code_X6_rateAsDoctor, w_ini_RX6, by decide +kernel, by decide +kernel, by decide +kernel⟩, w_inst_X6_rateAsDoctor, w_sel_X6_rateAsDoctor⟩
theorem h_X6_rateAsSamples : MV mi_X6_rateAsSamples 1 := ⟨⟨w_code_X6_rateAsSamples, w_ini_RX6, by decide +kernel, by decide +kernel, by decide +kernel⟩, w_inst_X6_rateAsSamples, w_sel_X6_rateAsSamples⟩
theorem h_X6_rateAsWife : MV mi_X6_rateAsWife 1 := ⟨⟨w_code_X6_rateAsWife, w_ini_RX6, by decide +kernel, by decide +kernel, by decide +kernel⟩, w_inst_X6_rateAsWife, w_sel_X6_rateAsWife⟩
theorem h_X6_rateAsTall : MV mi_X6_rateAsTall 1 := ⟨⟨w_code_X6_rateAsTall, w_ini_RX6, by decide +kernel, by decide +kernel, by decide +kernel⟩, w_inst_X6_rateAsTall, w_sel_X6_rateAsTall⟩
theorem h_X6_keep : MV mi_X6_keep 1 := ⟨⟨w_code_X6_keep, w_ini_RX6, by decide +kernel, by decide +kernel, by decide +kernel⟩, w_inst_X6_keep, w_sel_X6_keep⟩
theorem h_X6_back : MV mi_X6_back 1 := ⟨⟨w_code_X6_back, w_ini_RX6, by decide +kernel, by decide +kernel, by decide +kernel⟩, w_inst_X6_back, w_sel_X6_back⟩
theorem h_X6_count : MV mi_X6_count 1 := ⟨⟨w_code_X6_count, w_ini_RX6, by decide +kernel, by decide +kernel, by decide +kernel⟩, w_inst_X6_count, w_sel_X6_count⟩
theorem h_X6_trace : MV mi_X6_trace 0 := ⟨⟨w_code_X6_trace, w_ini_RX6, by decide +kernel, by decide +kernel, by decide +kernel⟩, w_inst_X6_trace, w_sel_X6_trace⟩
theorem h_X6_isTaste : MS mi_X6_isTaste 1 := ⟨⟨w_code_X6_isTaste, w_ini_RX6, by decide +kernel, by decide +kernel, by decide +kernel⟩, w_stat_X6_isTaste⟩
theorem h_X6_hasBit : MS mi_X6_hasBit 2 := ⟨⟨w_code_X6_hasBit, w_ini_RX6, by decide +kernel, by decide +kernel, by decide +kernel⟩, w_stat_X6_hasBit⟩
theorem h_X6_lowestBit : MS mi_X6_lowestBit 1 := ⟨⟨w_code_X6_lowestBit, w_ini_RX6, by decide +kernel, by decide +kernel, by decide +kernel⟩, w_stat_X6_lowestBit⟩
theorem h_X6_power : MS mi_X6_power 2 := ⟨⟨w_code_X6_power, w_ini_RX6, by decide +kernel, by decide +kernel, by decide +kernel⟩, w_stat_X6_power⟩
theorem h_X6_choices : MS mi_X6_choices 2 := ⟨⟨w_code_X6_choices, w_ini_RX6, by decide +kernel, by decide +kernel, by decide +kernel⟩, w_stat_X6_choices⟩
theorem h_X6_greatestDivisor : MS mi_X6_greatestDivisor 2 := ⟨⟨w_code_X6_greatestDivisor, w_ini_RX6, by decide +kernel, by decide +kernel, by decide +kernel⟩, w_stat_X6_greatestDivisor⟩
theorem h_X7_init : MN mi_X7_init 0 := ⟨⟨w_code_X7_init, w_ini_RX7, by decide +kernel, by decide +kernel, by decide +kernel⟩, rfl, w_inst_X7_init, rfl⟩
theorem h_X7_in : MS mi_X7_in 3 := ⟨⟨w_code_X7_in, w_ini_RX7, by decide +kernel, by decide +kernel, by decide +kernel⟩, w_stat_X7_in⟩
theorem h_X7_has : MS mi_X7_has 2 := ⟨⟨w_code_X7_has, w_ini_RX7, by decide +kernel, by decide +kernel, by decide +kernel⟩, w_stat_X7_has⟩
theorem h_X7_bits : MS mi_X7_bits 1 := ⟨⟨w_code_X7_bits, w_ini_RX7, by decide +kernel, by decide +kernel, by decide +kernel⟩, w_stat_X7_bits⟩
theorem h_X7_lowest : MS mi_X7_lowest 1 := ⟨⟨w_code_X7_lowest, w_ini_RX7, by decide +kernel, by decide +kernel, by decide +kernel⟩, w_stat_X7_lowest⟩
theorem h_X7_copies : MS mi_X7_copies 5 := ⟨⟨w_code_X7_copies, w_ini_RX7, by decide +kernel, by decide +kernel, by decide +kernel⟩, w_stat_X7_copies⟩
theorem h_X7_type : MV mi_X7_type 1 := ⟨⟨w_code_X7_type, w_ini_RX7, by decide +kernel, by decide +kernel, by decide +kernel⟩, w_inst_X7_type, w_sel_X7_type⟩
theorem h_X7_clear : MV mi_X7_clear 0 := ⟨⟨w_code_X7_clear, w_ini_RX7, by decide +kernel, by decide +kernel, by decide +kernel⟩, w_inst_X7_clear, w_sel_X7_clear⟩
theorem h_X7_here : MV mi_X7_here 0 := ⟨⟨w_code_X7_here, w_ini_RX7, by decide +kernel, by decide +kernel, by decide +kernel⟩, w_inst_X7_here, w_sel_X7_here⟩
theorem h_X7_isLetter : MV mi_X7_isLetter 0 := ⟨⟨w_code_X7_isLetter, w_ini_RX7, by decide +kernel, by decide +kernel, by decide +kernel⟩, w_inst_X7_isLetter, w_sel_X7_isLetter⟩
theorem h_X7_isFigure : MV mi_X7_isFigure 0 := ⟨⟨w_code_X7_isFigure, w_ini_RX7, by decide +kernel, by decide +kernel, by decide +kernel⟩, w_inst_X7_isFigure, w_sel_X7_isFigure⟩
theorem h_X7_step : MV mi_X7_step 0 := ⟨⟨w_code_X7_step, w_ini_RX7, by decide +kernel, by decide +kernel, by decide +kernel⟩, w_inst_X7_step, w_sel_X7_step⟩
theorem h_X7_readsFigures : MV mi_X7_readsFigures 0 := ⟨⟨w_code_X7_readsFigures, w_ini_RX7, by decide +kernel, by decide +kernel, by decide +kernel⟩, w_inst_X7_readsFigures, w_sel_X7_readsFigures⟩
theorem h_X7_number : MV mi_X7_number 2 := ⟨⟨w_code_X7_number, w_ini_RX7, by decide +kernel, by decide +kernel, by decide +kernel⟩, w_inst_X7_number, w_sel_X7_number⟩
theorem h_X7_row : MV mi_X7_row 2 := ⟨⟨w_code_X7_row, w_ini_RX7, by decide +kernel, by decide +kernel, by decide +kernel⟩, w_inst_X7_row, w_sel_X7_row⟩
theorem h_X7_isLeaf : MV mi_X7_isLeaf 0 := ⟨⟨w_code_X7_isLeaf, w_ini_RX7, by decide +kernel, by decide +kernel, by decide +kernel⟩, w_inst_X7_isLeaf, w_sel_X7_isLeaf⟩
theorem h_X7_isGoer : MV mi_X7_isGoer 0 := ⟨⟨w_code_X7_isGoer, w_ini_RX7, by decide +kernel, by decide +kernel, by decide +kernel⟩, w_inst_X7_isGoer, w_sel_X7_isGoer⟩
theorem h_X7_isSister : MV mi_X7_isSister 0 := ⟨⟨w_code_X7_isSister, w_ini_RX7, by decide +kernel, by decide +kernel, by decide +kernel⟩, w_inst_X7_isSister, w_sel_X7_isSister⟩
theorem h_X7_isFriday : MV mi_X7_isFriday 0 := ⟨⟨w_code_X7_isFriday, w_ini_RX7, by decide +kernel, by decide +kernel, by decide +kernel⟩, w_inst_X7_isFriday, w_sel_X7_isFriday⟩
theorem h_X7_isLane : MV mi_X7_isLane 0 := ⟨⟨w_code_X7_isLane, w_ini_RX7, by decide +kernel, by decide +kernel, by decide +kernel⟩, w_inst_X7_isLane, w_sel_X7_isLane⟩
theorem h_X7_isItem : MV mi_X7_isItem 0 := ⟨⟨w_code_X7_isItem, w_ini_RX7, by decide +kernel, by decide +kernel, by decide +kernel⟩, w_inst_X7_isItem, w_sel_X7_isItem⟩
theorem h_X7_reads : MV mi_X7_reads 0 := ⟨⟨w_code_X7_reads, w_ini_RX7, by decide +kernel, by decide +kernel, by decide +kernel⟩, w_inst_X7_reads, w_sel_X7_reads⟩
theorem h_X7_court : MV mi_X7_court 0 := ⟨⟨w_code_X7_court, w_ini_RX7, by decide +kernel, by decide +kernel, by decide +kernel⟩, w_inst_X7_court, w_sel_X7_court⟩
theorem h_X7_isTheLeaf : MV mi_X7_isTheLeaf 1 := ⟨⟨w_code_X7_isTheLeaf, w_ini_RX7, by decide +kernel, by decide +kernel, by decide +kernel⟩, w_inst_X7_isTheLeaf, w_sel_X7_isTheLeaf⟩
theorem h_X7_isOne : MV mi_X7_isOne 1 := ⟨⟨w_code_X7_isOne, w_ini_RX7, by decide +kernel, by decide +kernel, by decide +kernel⟩, w_inst_X7_isOne, w_sel_X7_isOne⟩
theorem h_X7_isTaste : MS mi_X7_isTaste 1 := ⟨⟨w_code_X7_isTaste, w_ini_RX7, by decide +kernel, by decide +kernel, by decide +kernel⟩, w_stat_X7_isTaste⟩
theorem h_X7_isBit : MS mi_X7_isBit 1 := ⟨⟨w_code_X7_isBit, w_ini_RX7, by decide +kernel, by decide +kernel, by decide +kernel⟩, w_stat_X7_isBit⟩
theorem h_X7_lets : MV mi_X7_lets 2 := ⟨⟨w_code_X7_lets, w_ini_RX7, by decide +kernel, by decide +kernel, by decide +kernel⟩, w_inst_X7_lets, w_sel_X7_lets⟩
theorem h_X7_letsBy : MV mi_X7_letsBy 1 := ⟨⟨w_code_X7_letsBy, w_ini_RX7, by decide +kernel, by decide +kernel, by decide +kernel⟩, w_inst_X7_letsBy, w_sel_X7_letsBy⟩
theorem h_X7_leavesOf : MV mi_X7_leavesOf 1 := ⟨⟨w_code_X7_leavesOf, w_ini_RX7, by decide +kernel, by decide +kernel, by decide +kernel⟩, w_inst_X7_leavesOf, w_sel_X7_leavesOf⟩
theorem h_X7_those : MV mi_X7_those 1 := ⟨⟨w_code_X7_those, w_ini_RX7, by decide +kernel, by decide +kernel, by decide +kernel⟩, w_inst_X7_those, w_sel_X7_those⟩
theorem h_X7_cover : MV mi_X7_cover 0 := ⟨⟨w_code_X7_cover, w_ini_RX7, by decide +kernel, by decide +kernel, by decide +kernel⟩, w_inst_X7_cover, w_sel_X7_cover⟩
theorem h_X7_leaf : MV mi_X7_leaf 2 := ⟨⟨w_code_X7_leaf, w_ini_RX7, by decide +kernel, by decide +kernel, by decide +kernel⟩, w_inst_X7_leaf, w_sel_X7_leaf⟩
theorem h_X7_goer : MV mi_X7_goer 2 := ⟨⟨w_code_X7_goer, w_ini_RX7, by decide +kernel, by decide +kernel, by decide +kernel⟩, w_inst_X7_goer, w_sel_X7_goer⟩
theorem h_X7_sister : MV mi_X7_sister 2 := ⟨⟨w_code_X7_sister, w_ini_RX7, by decide +kernel, by decide +kernel, by decide +kernel⟩, w_inst_X7_sister, w_sel_X7_sister⟩
theorem h_X7_now : MV mi_X7_now 1 := ⟨⟨w_code_X7_now, w_ini_RX7, by decide +kernel, by decide +kernel, by decide +kernel⟩, w_inst_X7_now, w_sel_X7_now⟩
theorem h_X7_notes : MV mi_X7_notes 0 := ⟨⟨w_code_X7_notes, w_ini_RX7, by decide +kernel, by decide +kernel, by decide +kernel⟩, w_inst_X7_notes, w_sel_X7_notes⟩
theorem h_X7_comes : MV mi_X7_comes 1 := ⟨⟨w_code_X7_comes, w_ini_RX7, by decide +kernel, by decide +kernel, by decide +kernel⟩, w_inst_X7_comes, w_sel_X7_comes⟩
theorem h_X7_says : MV mi_X7_says 2 := ⟨⟨w_code_X7_says, w_ini_RX7, by decide +kernel, by decide +kernel, by decide +kernel⟩, w_inst_X7_says, w_sel_X7_says⟩
theorem h_X7_minutes : MV mi_X7_minutes 1 := ⟨⟨w_code_X7_minutes, w_ini_RX7, by decide +kernel, by decide +kernel, by decide +kernel⟩, w_inst_X7_minutes, w_sel_X7_minutes⟩
theorem h_X7_undo : MV mi_X7_undo 0 := ⟨⟨w_code_X7_undo, w_ini_RX7, by decide +kernel, by decide +kernel, by decide +kernel⟩, w_inst_X7_undo, w_sel_X7_undo⟩
theorem h_X7_fewest : MV mi_X7_fewest 2 := ⟨⟨w_code_X7_fewest, w_ini_RX7, by decide +kernel, by decide +kernel, by decide +kernel⟩, w_inst_X7_fewest, w_sel_X7_fewest⟩
theorem h_X7_nextOrder : MV mi_X7_nextOrder 1 := ⟨⟨w_code_X7_nextOrder, w_ini_RX7, by decide +kernel, by decide +kernel, by decide +kernel⟩, w_inst_X7_nextOrder, w_sel_X7_nextOrder⟩
theorem h_X7_line : MV mi_X7_line 1 := ⟨⟨w_code_X7_line, w_ini_RX7, by decide +kernel, by decide +kernel, by decide +kernel⟩, w_inst_X7_line, w_sel_X7_line⟩
theorem h_X7_sees : MV mi_X7_sees 3 := ⟨⟨w_code_X7_sees, w_ini_RX7, by decide +kernel, by decide +kernel, by decide +kernel⟩, w_inst_X7_sees, w_sel_X7_sees⟩
theorem h_X7_forget : MV mi_X7_forget 0 := ⟨⟨w_code_X7_forget, w_ini_RX7, by decide +kernel, by decide +kernel, by decide +kernel⟩, w_inst_X7_forget, w_sel_X7_forget⟩
theorem h_X7_canHave : MV mi_X7_canHave 1 := ⟨⟨w_code_X7_canHave, w_ini_RX7, by decide +kernel, by decide +kernel, by decide +kernel⟩, w_inst_X7_canHave, w_sel_X7_canHave⟩
theorem h_X7_had : MV mi_X7_had 1 := ⟨⟨w_code_X7_had, w_ini_RX7, by decide +kernel, by decide +kernel, by decide +kernel⟩, w_inst_X7_had, w_sel_X7_had⟩
theorem h_X7_ask : MV mi_X7_ask 1 := ⟨⟨w_code_X7_ask, w_ini_RX7, by decide +kernel, by decide +kernel, by decide +kernel⟩, w_inst_X7_ask, w_sel_X7_ask⟩
theorem h_X7_taleOf : MV mi_X7_taleOf 2 := ⟨⟨w_code_X7_taleOf, w_ini_RX7, by decide +kernel, by decide +kernel, by decide +kernel⟩, w_inst_X7_taleOf, w_sel_X7_taleOf⟩
theorem h_X7_isTold : MV mi_X7_isTold 1 := ⟨⟨w_code_X7_isTold, w_ini_RX7, by decide +kernel, by decide +kernel, by decide +kernel⟩, w_inst_X7_isTold, w_sel_X7_isTold⟩
theorem h_X7_tale : MV mi_X7_tale 2 := ⟨⟨w_code_X7_tale, w_ini_RX7, by decide +kernel, by decide +kernel, by decide +kernel⟩, w_inst_X7_tale, w_sel_X7_tale⟩
theorem h_X7_first : MV mi_X7_first 2 := ⟨⟨w_code_X7_first, w_ini_RX7, by decide +kernel, by decide +kernel, by decide +kernel⟩, w_inst_X7_first, w_sel_X7_first⟩
theorem h_X7_when : MV mi_X7_when 1 := ⟨⟨w_code_X7_when, w_ini_RX7, by decide +kernel, by decide +kernel, by decide +kernel⟩, w_inst_X7_when, w_sel_X7_when⟩
theorem h_X7_power : MS mi_X7_power 2 := ⟨⟨w_code_X7_power, w_ini_RX7, by decide +kernel, by decide +kernel, by decide +kernel⟩, w_stat_X7_power⟩
theorem h_X7_odds : MV mi_X7_odds 4 := ⟨⟨w_code_X7_odds, w_ini_RX7, by decide +kernel, by decide +kernel, by decide +kernel⟩, w_inst_X7_odds, w_sel_X7_odds⟩
theorem h_X7_asGoer : MV mi_X7_asGoer 1 := ⟨⟨w_code_X7_asGoer, w_ini_RX7, by decide +kernel, by decide +kernel, by decide +kernel⟩, w_inst_X7_asGoer, w_sel_X7_asGoer⟩
theorem h_X7_asGent : MV mi_X7_asGent 1 := ⟨⟨w_code_X7_asGent, w_ini_RX7, by decide +kernel, by decide +kernel, by decide +kernel⟩, w_inst_X7_asGent, w_sel_X7_asGent⟩
theorem h_X7_asDoctor : MV mi_X7_asDoctor 1 := ⟨⟨w_code_X7_asDoctor, w_ini_RX7, by decide +kernel, by decide +kernel, by decide +kernel⟩, w_inst_X7_asDoctor, w_sel_X7_asDoctor⟩
theorem h_X7_rate : MV mi_X7_rate 2 := ⟨⟨w_code_X7_rate, w_ini_RX7, by decide +kernel, by decide +kernel, by decide +kernel⟩, w_inst_X7_rate, w_sel_X7_rate⟩
theorem h_X7_keep : MV mi_X7_keep 1 := ⟨⟨w_code_X7_keep, w_ini_RX7, by decide +kernel, by decide +kernel, by decide +kernel⟩, w_inst_X7_keep, w_sel_X7_keep⟩
theorem h_X7_back : MV mi_X7_back 1 := ⟨⟨w_code_X7_back, w_ini_RX7, by decide +kernel, by decide +kernel, by decide +kernel⟩, w_inst_X7_back, w_sel_X7_back⟩
theorem h_X7_count : MV mi_X7_count 1 := ⟨⟨w_code_X7_count, w_ini_RX7, by decide +kernel, by decide +kernel, by decide +kernel⟩, w_inst_X7_count, w_sel_X7_count⟩
theorem h_X7_trace : MV mi_X7_trace 0 := ⟨⟨w_code_X7_trace, w_ini_RX7, by decide +kernel, by decide +kernel, by decide +kernel⟩, w_inst_X7_trace, w_sel_X7_trace⟩
theorem h_J6_bitCount_0f7a4 : MS mi_J6_bitCount_0f7a4 1 := ⟨⟨w_code_J6_bitCount_0f7a4, w_ini_RJ6, by decide +kernel, by decide +kernel, by decide +kernel⟩, w_stat_J6_bitCount_0f7a4⟩
theorem h_J7_fill_53178 : MS mi_J7_fill_53178 2 := ⟨⟨w_code_J7_fill_53178, w_ini_RJ7, by decide +kernel, by decide +kernel, by decide +kernel⟩, w_stat_J7_fill_53178⟩
theorem h_J9_max_7cf53 : MS mi_J9_max_7cf53 2 := ⟨⟨w_code_J9_max_7cf53, w_ini_RJ9, by decide +kernel, by decide +kernel, by decide +kernel⟩, w_stat_J9_max_7cf53⟩
theorem h_J9_min_7cf53 : MS mi_J9_min_7cf53 2 := ⟨⟨w_code_J9_min_7cf53, w_ini_RJ9, by decide +kernel, by decide +kernel, by decide +kernel⟩, w_stat_J9_min_7cf53⟩
