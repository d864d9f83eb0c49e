theorem se_X5_fail : Cond.selects RX5 yX5_fail yX5_fail ∈ nf_tbl := List.mem_filter.mpr ⟨List.mem_of_getElem? (i := 0) (by decide +kernel), by decide +kernel⟩
theorem se_X5_save : Cond.selects RX5 yX5_save yX5_save ∈ nf_tbl := List.mem_filter.mpr ⟨List.mem_of_getElem? (i := 1) (by decide +kernel), by decide +kernel⟩
theorem se_X5_publish : Cond.selects RX5 yX5_publish yX5_publish ∈ nf_tbl := List.mem_filter.mpr ⟨List.mem_of_getElem? (i := 2) (by decide +kernel), by decide +kernel⟩
theorem se_X5_isArticle : Cond.selects RX5 yX5_isArticle yX5_isArticle ∈ nf_tbl := List.mem_filter.mpr ⟨List.mem_of_getElem? (i := 3) (by decide +kernel), by decide +kernel⟩
theorem se_X6_error : Cond.selects RX6 yX6_error yX6_error ∈ nf_tbl := List.mem_filter.mpr ⟨List.mem_of_getElem? (i := 4) (by decide +kernel), by decide +kernel⟩
theorem se_X6_linkOf : Cond.selects RX6 yX6_linkOf yX6_linkOf ∈ nf_tbl := List.mem_filter.mpr ⟨List.mem_of_getElem? (i := 5) (by decide +kernel), by decide +kernel⟩
theorem se_X6_link : Cond.selects RX6 yX6_link yX6_link ∈ nf_tbl := List.mem_filter.mpr ⟨List.mem_of_getElem? (i := 6) (by decide +kernel), by decide +kernel⟩
theorem se_X6_save : Cond.selects RX6 yX6_save yX6_save ∈ nf_tbl := List.mem_filter.mpr ⟨List.mem_of_getElem? (i := 7) (by decide +kernel), by decide +kernel⟩
theorem se_X6_isLink : Cond.selects RX6 yX6_isLink yX6_isLink ∈ nf_tbl := List.mem_filter.mpr ⟨List.mem_of_getElem? (i := 8) (by decide +kernel), by decide +kernel⟩
theorem se_X6_posts : Cond.selects RX6 yX6_posts yX6_posts ∈ nf_tbl := List.mem_filter.mpr ⟨List.mem_of_getElem? (i := 9) (by decide +kernel), by decide +kernel⟩
theorem se_X6_arrives : Cond.selects RX6 yX6_arrives yX6_arrives ∈ nf_tbl := List.mem_filter.mpr ⟨List.mem_of_getElem? (i := 10) (by decide +kernel), by decide +kernel⟩
theorem se_X6_known : Cond.selects RX6 yX6_known yX6_known ∈ nf_tbl := List.mem_filter.mpr ⟨List.mem_of_getElem? (i := 11) (by decide +kernel), by decide +kernel⟩
theorem se_X6_of : Cond.selects RX6 yX6_of yX6_of ∈ nf_tbl := List.mem_filter.mpr ⟨List.mem_of_getElem? (i := 12) (by decide +kernel), by decide +kernel⟩
theorem se_X6_acts : Cond.selects RX6 yX6_acts yX6_acts ∈ nf_tbl := List.mem_filter.mpr ⟨List.mem_of_getElem? (i := 13) (by decide +kernel), by decide +kernel⟩
theorem se_X6_isIn : Cond.selects RX6 yX6_isIn yX6_isIn ∈ nf_tbl := List.mem_filter.mpr ⟨List.mem_of_getElem? (i := 14) (by decide +kernel), by decide +kernel⟩
theorem se_X6_isArticle : Cond.selects RX6 yX6_isArticle yX6_isArticle ∈ nf_tbl := List.mem_filter.mpr ⟨List.mem_of_getElem? (i := 15) (by decide +kernel), by decide +kernel⟩
theorem se_X6_goesRound : Cond.selects RX6 yX6_goesRound yX6_goesRound ∈ nf_tbl := List.mem_filter.mpr ⟨List.mem_of_getElem? (i := 16) (by decide +kernel), by decide +kernel⟩
theorem se_X6_takes : Cond.selects RX6 yX6_takes yX6_takes ∈ nf_tbl := List.mem_filter.mpr ⟨List.mem_of_getElem? (i := 17) (by decide +kernel), by decide +kernel⟩
theorem se_X6_pendingOf : Cond.selects RX6 yX6_pendingOf yX6_pendingOf ∈ nf_tbl := List.mem_filter.mpr ⟨List.mem_of_getElem? (i := 18) (by decide +kernel), by decide +kernel⟩
theorem ini_L : Cond.initialized RL ∈ nf_tbl := List.mem_filter.mpr ⟨List.mem_of_getElem? (i := 19) (by decide +kernel), by decide +kernel⟩
theorem ini_X5 : Cond.initialized RX5 ∈ nf_tbl := List.mem_filter.mpr ⟨List.mem_of_getElem? (i := 20) (by decide +kernel), by decide +kernel⟩
theorem ini_X3 : Cond.initialized RX3 ∈ nf_tbl := List.mem_filter.mpr ⟨List.mem_of_getElem? (i := 21) (by decide +kernel), by decide +kernel⟩
theorem ini_X2 : Cond.initialized RX2 ∈ nf_tbl := List.mem_filter.mpr ⟨List.mem_of_getElem? (i := 22) (by decide +kernel), by decide +kernel⟩
theorem ini_X0 : Cond.initialized RX0 ∈ nf_tbl := List.mem_filter.mpr ⟨List.mem_of_getElem? (i := 23) (by decide +kernel), by decide +kernel⟩
theorem ini_X4 : Cond.initialized RX4 ∈ nf_tbl := List.mem_filter.mpr ⟨List.mem_of_getElem? (i := 24) (by decide +kernel), by decide +kernel⟩
theorem ini_J7 : Cond.initialized RJ7 ∈ nf_tbl := List.mem_filter.mpr ⟨List.mem_of_getElem? (i := 25) (by decide +kernel), by decide +kernel⟩
theorem ini_X1 : Cond.initialized RX1 ∈ nf_tbl := List.mem_filter.mpr ⟨List.mem_of_getElem? (i := 26) (by decide +kernel), by decide +kernel⟩
theorem ini_X6 : Cond.initialized RX6 ∈ nf_tbl := List.mem_filter.mpr ⟨List.mem_of_getElem? (i := 27) (by decide +kernel), by decide +kernel⟩
theorem ini_J10 : Cond.initialized RJ10 ∈ nf_tbl := List.mem_filter.mpr ⟨List.mem_of_getElem? (i := 28) (by decide +kernel), by decide +kernel⟩
theorem ini_J6 : Cond.initialized RJ6 ∈ nf_tbl := List.mem_filter.mpr ⟨List.mem_of_getElem? (i := 29) (by decide +kernel), by decide +kernel⟩
theorem ml_L_9 : Cond.methodLink RL 9 yX5_init ∈ nf_tbl := List.mem_filter.mpr ⟨List.mem_of_getElem? (i := 32) (by decide +kernel), by decide +kernel⟩
theorem im_X5_init : Cond.instanceMethod yX5_init ∈ nf_tbl := List.mem_filter.mpr ⟨List.mem_of_getElem? (i := 33) (by decide +kernel), by decide +kernel⟩
theorem cd_X5_init : Cond.code yX5_init cX5_init 2 none ∈ nf_tbl := List.mem_filter.mpr ⟨List.mem_of_getElem? (i := 34) (by decide +kernel), by decide +kernel⟩
theorem ml_X5_11 : Cond.methodLink RX5 11 yX3_init ∈ nf_tbl := List.mem_filter.mpr ⟨List.mem_of_getElem? (i := 40) (by decide +kernel), by decide +kernel⟩
theorem im_X3_init : Cond.instanceMethod yX3_init ∈ nf_tbl := List.mem_filter.mpr ⟨List.mem_of_getElem? (i := 41) (by decide +kernel), by decide +kernel⟩
theorem cd_X3_init : Cond.code yX3_init cX3_init 2 none ∈ nf_tbl := List.mem_filter.mpr ⟨List.mem_of_getElem? (i := 42) (by decide +kernel), by decide +kernel⟩
theorem im_X2_init : Cond.instanceMethod yX2_init ∈ nf_tbl := List.mem_filter.mpr ⟨List.mem_of_getElem? (i := 47) (by decide +kernel), by decide +kernel⟩
theorem cd_X2_init : Cond.code yX2_init cX2_init 1 none ∈ nf_tbl := List.mem_filter.mpr ⟨List.mem_of_getElem? (i := 48) (by decide +kernel), by decide +kernel⟩
theorem lk_X2_9 : Cond.fieldLink RX2 9 "NewsFlood$Links" "count" "I" ∈ nf_tbl := List.mem_filter.mpr ⟨List.mem_of_getElem? (i := 50) (by decide +kernel), by decide +kernel⟩
theorem lk_X5_53 : Cond.fieldLink RX5 53 "NewsFlood$Links" "count" "I" ∈ nf_tbl := List.mem_filter.mpr ⟨List.mem_of_getElem? (i := 51) (by decide +kernel), by decide +kernel⟩
theorem lk_X2_15 : Cond.fieldLink RX2 15 "NewsFlood$Links" "first" "[I" ∈ nf_tbl := List.mem_filter.mpr ⟨List.mem_of_getElem? (i := 52) (by decide +kernel), by decide +kernel⟩
theorem lk_X5_178 : Cond.fieldLink RX5 178 "NewsFlood$Links" "first" "[I" ∈ nf_tbl := List.mem_filter.mpr ⟨List.mem_of_getElem? (i := 53) (by decide +kernel), by decide +kernel⟩
theorem lk_X2_19 : Cond.fieldLink RX2 19 "NewsFlood$Links" "second" "[I" ∈ nf_tbl := List.mem_filter.mpr ⟨List.mem_of_getElem? (i := 54) (by decide +kernel), by decide +kernel⟩
theorem lk_X5_181 : Cond.fieldLink RX5 181 "NewsFlood$Links" "second" "[I" ∈ nf_tbl := List.mem_filter.mpr ⟨List.mem_of_getElem? (i := 55) (by decide +kernel), by decide +kernel⟩
theorem lk_X2_22 : Cond.fieldLink RX2 22 "NewsFlood$Links" "kind" "[I" ∈ nf_tbl := List.mem_filter.mpr ⟨List.mem_of_getElem? (i := 56) (by decide +kernel), by decide +kernel⟩
theorem lk_X5_67 : Cond.fieldLink RX5 67 "NewsFlood$Links" "kind" "[I" ∈ nf_tbl := List.mem_filter.mpr ⟨List.mem_of_getElem? (i := 57) (by decide +kernel), by decide +kernel⟩
theorem lk_X3_144 : Cond.fieldLink RX3 144 "NewsFlood$Links" "kind" "[I" ∈ nf_tbl := List.mem_filter.mpr ⟨List.mem_of_getElem? (i := 58) (by decide +kernel), by decide +kernel⟩
theorem im_X0_init : Cond.instanceMethod yX0_init ∈ nf_tbl := List.mem_filter.mpr ⟨List.mem_of_getElem? (i := 72) (by decide +kernel), by decide +kernel⟩
theorem cd_X0_init : Cond.code yX0_init cX0_init 1 none ∈ nf_tbl := List.mem_filter.mpr ⟨List.mem_of_getElem? (i := 73) (by decide +kernel), by decide +kernel⟩
theorem lk_X0_9 : Cond.fieldLink RX0 9 "NewsFlood$Articles" "count" "I" ∈ nf_tbl := List.mem_filter.mpr ⟨List.mem_of_getElem? (i := 75) (by decide +kernel), by decide +kernel⟩
theorem lk_X3_121 : Cond.fieldLink RX3 121 "NewsFlood$Articles" "count" "I" ∈ nf_tbl := List.mem_filter.mpr ⟨List.mem_of_getElem? (i := 76) (by decide +kernel), by decide +kernel⟩
theorem lk_X5_128 : Cond.fieldLink RX5 128 "NewsFlood$Articles" "count" "I" ∈ nf_tbl := List.mem_filter.mpr ⟨List.mem_of_getElem? (i := 77) (by decide +kernel), by decide +kernel⟩
theorem lk_X0_15 : Cond.fieldLink RX0 15 "NewsFlood$Articles" "group" "[I" ∈ nf_tbl := List.mem_filter.mpr ⟨List.mem_of_getElem? (i := 78) (by decide +kernel), by decide +kernel⟩
theorem lk_X3_76 : Cond.fieldLink RX3 76 "NewsFlood$Articles" "group" "[I" ∈ nf_tbl := List.mem_filter.mpr ⟨List.mem_of_getElem? (i := 79) (by decide +kernel), by decide +kernel⟩
theorem lk_X5_100 : Cond.fieldLink RX5 100 "NewsFlood$Articles" "group" "[I" ∈ nf_tbl := List.mem_filter.mpr ⟨List.mem_of_getElem? (i := 80) (by decide +kernel), by decide +kernel⟩
theorem lk_X0_19 : Cond.fieldLink RX0 19 "NewsFlood$Articles" "author" "[I" ∈ nf_tbl := List.mem_filter.mpr ⟨List.mem_of_getElem? (i := 81) (by decide +kernel), by decide +kernel⟩
theorem lk_X3_69 : Cond.fieldLink RX3 69 "NewsFlood$Articles" "author" "[I" ∈ nf_tbl := List.mem_filter.mpr ⟨List.mem_of_getElem? (i := 82) (by decide +kernel), by decide +kernel⟩
theorem lk_X5_184 : Cond.fieldLink RX5 184 "NewsFlood$Articles" "author" "[I" ∈ nf_tbl := List.mem_filter.mpr ⟨List.mem_of_getElem? (i := 83) (by decide +kernel), by decide +kernel⟩
theorem lk_X0_22 : Cond.fieldLink RX0 22 "NewsFlood$Articles" "postedOn" "[I" ∈ nf_tbl := List.mem_filter.mpr ⟨List.mem_of_getElem? (i := 84) (by decide +kernel), by decide +kernel⟩
theorem lk_X3_63 : Cond.fieldLink RX3 63 "NewsFlood$Articles" "postedOn" "[I" ∈ nf_tbl := List.mem_filter.mpr ⟨List.mem_of_getElem? (i := 85) (by decide +kernel), by decide +kernel⟩
theorem lk_X5_187 : Cond.fieldLink RX5 187 "NewsFlood$Articles" "postedOn" "[I" ∈ nf_tbl := List.mem_filter.mpr ⟨List.mem_of_getElem? (i := 86) (by decide +kernel), by decide +kernel⟩
theorem lk_X0_25 : Cond.fieldLink RX0 25 "NewsFlood$Articles" "action" "[I" ∈ nf_tbl := List.mem_filter.mpr ⟨List.mem_of_getElem? (i := 87) (by decide +kernel), by decide +kernel⟩
theorem lk_X3_86 : Cond.fieldLink RX3 86 "NewsFlood$Articles" "action" "[I" ∈ nf_tbl := List.mem_filter.mpr ⟨List.mem_of_getElem? (i := 88) (by decide +kernel), by decide +kernel⟩
theorem lk_X5_190 : Cond.fieldLink RX5 190 "NewsFlood$Articles" "action" "[I" ∈ nf_tbl := List.mem_filter.mpr ⟨List.mem_of_getElem? (i := 89) (by decide +kernel), by decide +kernel⟩
theorem lk_X0_28 : Cond.fieldLink RX0 28 "NewsFlood$Articles" "target" "[I" ∈ nf_tbl := List.mem_filter.mpr ⟨List.mem_of_getElem? (i := 90) (by decide +kernel), by decide +kernel⟩
theorem lk_X3_101 : Cond.fieldLink RX3 101 "NewsFlood$Articles" "target" "[I" ∈ nf_tbl := List.mem_filter.mpr ⟨List.mem_of_getElem? (i := 91) (by decide +kernel), by decide +kernel⟩
theorem lk_X5_193 : Cond.fieldLink RX5 193 "NewsFlood$Articles" "target" "[I" ∈ nf_tbl := List.mem_filter.mpr ⟨List.mem_of_getElem? (i := 92) (by decide +kernel), by decide +kernel⟩
theorem im_X4_init : Cond.instanceMethod yX4_init ∈ nf_tbl := List.mem_filter.mpr ⟨List.mem_of_getElem? (i := 111) (by decide +kernel), by decide +kernel⟩
theorem cd_X4_init : Cond.code yX4_init cX4_init 1 none ∈ nf_tbl := List.mem_filter.mpr ⟨List.mem_of_getElem? (i := 112) (by decide +kernel), by decide +kernel⟩
theorem lk_X4_9 : Cond.fieldLink RX4 9 "NewsFlood$Queue" "receivers" "[I" ∈ nf_tbl := List.mem_filter.mpr ⟨List.mem_of_getElem? (i := 114) (by decide +kernel), by decide +kernel⟩
theorem lk_X3_128 : Cond.fieldLink RX3 128 "NewsFlood$Queue" "receivers" "[I" ∈ nf_tbl := List.mem_filter.mpr ⟨List.mem_of_getElem? (i := 115) (by decide +kernel), by decide +kernel⟩
theorem lk_X4_15 : Cond.fieldLink RX4 15 "NewsFlood$Queue" "path" "[I" ∈ nf_tbl := List.mem_filter.mpr ⟨List.mem_of_getElem? (i := 116) (by decide +kernel), by decide +kernel⟩
theorem lk_X3_134 : Cond.fieldLink RX3 134 "NewsFlood$Queue" "path" "[I" ∈ nf_tbl := List.mem_filter.mpr ⟨List.mem_of_getElem? (i := 117) (by decide +kernel), by decide +kernel⟩
theorem ml_X3_52 : Cond.methodLink RX3 52 yJ7_fill_53178 ∈ nf_tbl := List.mem_filter.mpr ⟨List.mem_of_getElem? (i := 123) (by decide +kernel), by decide +kernel⟩
theorem st_J7_fill_53178 : Cond.static yJ7_fill_53178 ∈ nf_tbl := List.mem_filter.mpr ⟨List.mem_of_getElem? (i := 124) (by decide +kernel), by decide +kernel⟩
theorem cd_J7_fill_53178 : Cond.code yJ7_fill_53178 cJ7_fill_53178 4 none ∈ nf_tbl := List.mem_filter.mpr ⟨List.mem_of_getElem? (i := 125) (by decide +kernel), by decide +kernel⟩
theorem ml_X3_58 : Cond.methodLink RX3 58 yX1_init ∈ nf_tbl := List.mem_filter.mpr ⟨List.mem_of_getElem? (i := 127) (by decide +kernel), by decide +kernel⟩
theorem im_X1_init : Cond.instanceMethod yX1_init ∈ nf_tbl := List.mem_filter.mpr ⟨List.mem_of_getElem? (i := 128) (by decide +kernel), by decide +kernel⟩
theorem cd_X1_init : Cond.code yX1_init cX1_init 1 none ∈ nf_tbl := List.mem_filter.mpr ⟨List.mem_of_getElem? (i := 129) (by decide +kernel), by decide +kernel⟩
theorem ml_X1_25 : Cond.methodLink RX1 25 yJ7_fill_53178 ∈ nf_tbl := List.mem_filter.mpr ⟨List.mem_of_getElem? (i := 131) (by decide +kernel), by decide +kernel⟩
theorem lk_X1_9 : Cond.fieldLink RX1 9 "NewsFlood$Host" "groups" "I" ∈ nf_tbl := List.mem_filter.mpr ⟨List.mem_of_getElem? (i := 132) (by decide +kernel), by decide +kernel⟩
theorem lk_X5_74 : Cond.fieldLink RX5 74 "NewsFlood$Host" "groups" "I" ∈ nf_tbl := List.mem_filter.mpr ⟨List.mem_of_getElem? (i := 133) (by decide +kernel), by decide +kernel⟩
theorem lk_X1_15 : Cond.fieldLink RX1 15 "NewsFlood$Host" "store" "I" ∈ nf_tbl := List.mem_filter.mpr ⟨List.mem_of_getElem? (i := 134) (by decide +kernel), by decide +kernel⟩
theorem lk_X1_18 : Cond.fieldLink RX1 18 "NewsFlood$Host" "historyDay" "[I" ∈ nf_tbl := List.mem_filter.mpr ⟨List.mem_of_getElem? (i := 135) (by decide +kernel), by decide +kernel⟩
theorem lk_X3_66 : Cond.fieldLink RX3 66 "NewsFlood$Host" "historyDay" "[I" ∈ nf_tbl := List.mem_filter.mpr ⟨List.mem_of_getElem? (i := 136) (by decide +kernel), by decide +kernel⟩
theorem lk_X5_122 : Cond.fieldLink RX5 122 "NewsFlood$Host" "historyDay" "[I" ∈ nf_tbl := List.mem_filter.mpr ⟨List.mem_of_getElem? (i := 137) (by decide +kernel), by decide +kernel⟩
theorem lk_X1_22 : Cond.fieldLink RX1 22 "NewsFlood$Host" "cancelAuthors" "[I" ∈ nf_tbl := List.mem_filter.mpr ⟨List.mem_of_getElem? (i := 138) (by decide +kernel), by decide +kernel⟩
theorem lk_X3_9 : Cond.fieldLink RX3 9 "NewsFlood$Network" "today" "I" ∈ nf_tbl := List.mem_filter.mpr ⟨List.mem_of_getElem? (i := 148) (by decide +kernel), by decide +kernel⟩
theorem lk_X5_138 : Cond.fieldLink RX5 138 "NewsFlood$Network" "today" "I" ∈ nf_tbl := List.mem_filter.mpr ⟨List.mem_of_getElem? (i := 149) (by decide +kernel), by decide +kernel⟩
theorem lk_X3_15 : Cond.fieldLink RX3 15 "NewsFlood$Network" "historyLimit" "I" ∈ nf_tbl := List.mem_filter.mpr ⟨List.mem_of_getElem? (i := 150) (by decide +kernel), by decide +kernel⟩
theorem lk_X5_86 : Cond.fieldLink RX5 86 "NewsFlood$Network" "historyLimit" "I" ∈ nf_tbl := List.mem_filter.mpr ⟨List.mem_of_getElem? (i := 151) (by decide +kernel), by decide +kernel⟩
theorem lk_X3_18 : Cond.fieldLink RX3 18 "NewsFlood$Network" "expiry" "[I" ∈ nf_tbl := List.mem_filter.mpr ⟨List.mem_of_getElem? (i := 152) (by decide +kernel), by decide +kernel⟩
theorem lk_X5_83 : Cond.fieldLink RX5 83 "NewsFlood$Network" "expiry" "[I" ∈ nf_tbl := List.mem_filter.mpr ⟨List.mem_of_getElem? (i := 153) (by decide +kernel), by decide +kernel⟩
theorem lk_X3_25 : Cond.fieldLink RX3 25 "NewsFlood$Network" "links" "LNewsFlood$Links;" ∈ nf_tbl := List.mem_filter.mpr ⟨List.mem_of_getElem? (i := 154) (by decide +kernel), by decide +kernel⟩
theorem lk_X5_43 : Cond.fieldLink RX5 43 "NewsFlood$Network" "links" "LNewsFlood$Links;" ∈ nf_tbl := List.mem_filter.mpr ⟨List.mem_of_getElem? (i := 155) (by decide +kernel), by decide +kernel⟩
theorem lk_X3_32 : Cond.fieldLink RX3 32 "NewsFlood$Network" "articles" "LNewsFlood$Articles;" ∈ nf_tbl := List.mem_filter.mpr ⟨List.mem_of_getElem? (i := 156) (by decide +kernel), by decide +kernel⟩
theorem lk_X5_96 : Cond.fieldLink RX5 96 "NewsFlood$Network" "articles" "LNewsFlood$Articles;" ∈ nf_tbl := List.mem_filter.mpr ⟨List.mem_of_getElem? (i := 157) (by decide +kernel), by decide +kernel⟩
theorem lk_X3_38 : Cond.fieldLink RX3 38 "NewsFlood$Network" "hosts" "[LNewsFlood$Host;" ∈ nf_tbl := List.mem_filter.mpr ⟨List.mem_of_getElem? (i := 158) (by decide +kernel), by decide +kernel⟩
theorem lk_X5_70 : Cond.fieldLink RX5 70 "NewsFlood$Network" "hosts" "[LNewsFlood$Host;" ∈ nf_tbl := List.mem_filter.mpr ⟨List.mem_of_getElem? (i := 159) (by decide +kernel), by decide +kernel⟩
theorem lk_X3_45 : Cond.fieldLink RX3 45 "NewsFlood$Network" "queue" "LNewsFlood$Queue;" ∈ nf_tbl := List.mem_filter.mpr ⟨List.mem_of_getElem? (i := 160) (by decide +kernel), by decide +kernel⟩
theorem lk_X5_109 : Cond.fieldLink RX5 109 "NewsFlood$Network" "queue" "LNewsFlood$Queue;" ∈ nf_tbl := List.mem_filter.mpr ⟨List.mem_of_getElem? (i := 161) (by decide +kernel), by decide +kernel⟩
theorem lk_X3_49 : Cond.fieldLink RX3 49 "NewsFlood$Network" "counts" "[I" ∈ nf_tbl := List.mem_filter.mpr ⟨List.mem_of_getElem? (i := 162) (by decide +kernel), by decide +kernel⟩
theorem lk_X5_135 : Cond.fieldLink RX5 135 "NewsFlood$Network" "counts" "[I" ∈ nf_tbl := List.mem_filter.mpr ⟨List.mem_of_getElem? (i := 163) (by decide +kernel), by decide +kernel⟩
theorem lk_X5_12 : Cond.fieldLink RX5 12 "NewsFlood" "network" "LNewsFlood$Network;" ∈ nf_tbl := List.mem_filter.mpr ⟨List.mem_of_getElem? (i := 184) (by decide +kernel), by decide +kernel⟩
theorem lk_X5_19 : Cond.fieldLink RX5 19 "NewsFlood" "taken" "LNewsFlood$Queue;" ∈ nf_tbl := List.mem_filter.mpr ⟨List.mem_of_getElem? (i := 185) (by decide +kernel), by decide +kernel⟩
theorem lk_X5_23 : Cond.fieldLink RX5 23 "NewsFlood" "saved" "[LNewsFlood$Network;" ∈ nf_tbl := List.mem_filter.mpr ⟨List.mem_of_getElem? (i := 186) (by decide +kernel), by decide +kernel⟩
theorem lk_X5_27 : Cond.fieldLink RX5 27 "NewsFlood" "savedCount" "I" ∈ nf_tbl := List.mem_filter.mpr ⟨List.mem_of_getElem? (i := 187) (by decide +kernel), by decide +kernel⟩
theorem lk_X5_31 : Cond.fieldLink RX5 31 "NewsFlood" "errors" "[I" ∈ nf_tbl := List.mem_filter.mpr ⟨List.mem_of_getElem? (i := 188) (by decide +kernel), by decide +kernel⟩
theorem ml_L_13 : Cond.methodLink RL 13 yX5_addLink ∈ nf_tbl := List.mem_filter.mpr ⟨List.mem_of_getElem? (i := 200) (by decide +kernel), by decide +kernel⟩
theorem im_X5_addLink : Cond.instanceMethod yX5_addLink ∈ nf_tbl := List.mem_filter.mpr ⟨List.mem_of_getElem? (i := 201) (by decide +kernel), by decide +kernel⟩
theorem se_X5_addLink : Cond.selects RX5 yX5_addLink yX5_addLink ∈ nf_tbl := List.mem_filter.mpr ⟨List.mem_of_getElem? (i := 202) (by decide +kernel), by decide +kernel⟩
theorem cd_X5_addLink : Cond.code yX5_addLink cX5_addLink 4 (some .int) ∈ nf_tbl := List.mem_filter.mpr ⟨List.mem_of_getElem? (i := 203) (by decide +kernel), by decide +kernel⟩
theorem ml_X5_35 : Cond.methodLink RX5 35 yX5_isBelow ∈ nf_tbl := List.mem_filter.mpr ⟨List.mem_of_getElem? (i := 204) (by decide +kernel), by decide +kernel⟩
theorem st_X5_isBelow : Cond.static yX5_isBelow ∈ nf_tbl := List.mem_filter.mpr ⟨List.mem_of_getElem? (i := 205) (by decide +kernel), by decide +kernel⟩
theorem cd_X5_isBelow : Cond.code yX5_isBelow cX5_isBelow 2 (some .boolean) ∈ nf_tbl := List.mem_filter.mpr ⟨List.mem_of_getElem? (i := 206) (by decide +kernel), by decide +kernel⟩
theorem ml_X5_39 : Cond.methodLink RX5 39 yX5_fail ∈ nf_tbl := List.mem_filter.mpr ⟨List.mem_of_getElem? (i := 207) (by decide +kernel), by decide +kernel⟩
theorem im_X5_fail : Cond.instanceMethod yX5_fail ∈ nf_tbl := List.mem_filter.mpr ⟨List.mem_of_getElem? (i := 209) (by decide +kernel), by decide +kernel⟩
theorem cd_X5_fail : Cond.code yX5_fail cX5_fail 3 (some .int) ∈ nf_tbl := List.mem_filter.mpr ⟨List.mem_of_getElem? (i := 210) (by decide +kernel), by decide +kernel⟩
theorem ml_X5_145 : Cond.methodLink RX5 145 yX5_errorSlot ∈ nf_tbl := List.mem_filter.mpr ⟨List.mem_of_getElem? (i := 211) (by decide +kernel), by decide +kernel⟩
theorem st_X5_errorSlot : Cond.static yX5_errorSlot ∈ nf_tbl := List.mem_filter.mpr ⟨List.mem_of_getElem? (i := 212) (by decide +kernel), by decide +kernel⟩
theorem cd_X5_errorSlot : Cond.code yX5_errorSlot cX5_errorSlot 1 (some .int) ∈ nf_tbl := List.mem_filter.mpr ⟨List.mem_of_getElem? (i := 213) (by decide +kernel), by decide +kernel⟩
theorem ml_X5_47 : Cond.methodLink RX5 47 yX2_between ∈ nf_tbl := List.mem_filter.mpr ⟨List.mem_of_getElem? (i := 214) (by decide +kernel), by decide +kernel⟩
theorem im_X2_between : Cond.instanceMethod yX2_between ∈ nf_tbl := List.mem_filter.mpr ⟨List.mem_of_getElem? (i := 215) (by decide +kernel), by decide +kernel⟩
theorem se_X2_between : Cond.selects RX2 yX2_between yX2_between ∈ nf_tbl := List.mem_filter.mpr ⟨List.mem_of_getElem? (i := 216) (by decide +kernel), by decide +kernel⟩
theorem cd_X2_between : Cond.code yX2_between cX2_between 6 (some .int) ∈ nf_tbl := List.mem_filter.mpr ⟨List.mem_of_getElem? (i := 217) (by decide +kernel), by decide +kernel⟩
theorem ml_X5_56 : Cond.methodLink RX5 56 yX5_save ∈ nf_tbl := List.mem_filter.mpr ⟨List.mem_of_getElem? (i := 218) (by decide +kernel), by decide +kernel⟩
theorem im_X5_save : Cond.instanceMethod yX5_save ∈ nf_tbl := List.mem_filter.mpr ⟨List.mem_of_getElem? (i := 220) (by decide +kernel), by decide +kernel⟩
theorem cd_X5_save : Cond.code yX5_save cX5_save 3 none ∈ nf_tbl := List.mem_filter.mpr ⟨List.mem_of_getElem? (i := 221) (by decide +kernel), by decide +kernel⟩
theorem ml_X5_141 : Cond.methodLink RX5 141 yX3_copyFrom ∈ nf_tbl := List.mem_filter.mpr ⟨List.mem_of_getElem? (i := 222) (by decide +kernel), by decide +kernel⟩
theorem im_X3_copyFrom : Cond.instanceMethod yX3_copyFrom ∈ nf_tbl := List.mem_filter.mpr ⟨List.mem_of_getElem? (i := 223) (by decide +kernel), by decide +kernel⟩
theorem se_X3_copyFrom : Cond.selects RX3 yX3_copyFrom yX3_copyFrom ∈ nf_tbl := List.mem_filter.mpr ⟨List.mem_of_getElem? (i := 224) (by decide +kernel), by decide +kernel⟩
theorem cd_X3_copyFrom : Cond.code yX3_copyFrom cX3_copyFrom 3 none ∈ nf_tbl := List.mem_filter.mpr ⟨List.mem_of_getElem? (i := 225) (by decide +kernel), by decide +kernel⟩
theorem ac_X3_159 : Cond.methodLink RX3 159 arraycopyName ∈ nf_tbl := List.mem_filter.mpr ⟨List.mem_of_getElem? (i := 226) (by decide +kernel), by decide +kernel⟩
theorem ac_static : Cond.static arraycopyName ∈ nf_tbl := List.mem_filter.mpr ⟨List.mem_of_getElem? (i := 227) (by decide +kernel), by decide +kernel⟩
theorem ac_native : Cond.native arraycopyName ∈ nf_tbl := List.mem_filter.mpr ⟨List.mem_of_getElem? (i := 228) (by decide +kernel), by decide +kernel⟩
theorem ml_X3_165 : Cond.methodLink RX3 165 yX2_copyFrom ∈ nf_tbl := List.mem_filter.mpr ⟨List.mem_of_getElem? (i := 229) (by decide +kernel), by decide +kernel⟩
theorem im_X2_copyFrom : Cond.instanceMethod yX2_copyFrom ∈ nf_tbl := List.mem_filter.mpr ⟨List.mem_of_getElem? (i := 230) (by decide +kernel), by decide +kernel⟩
theorem se_X2_copyFrom : Cond.selects RX2 yX2_copyFrom yX2_copyFrom ∈ nf_tbl := List.mem_filter.mpr ⟨List.mem_of_getElem? (i := 231) (by decide +kernel), by decide +kernel⟩
theorem cd_X2_copyFrom : Cond.code yX2_copyFrom cX2_copyFrom 2 none ∈ nf_tbl := List.mem_filter.mpr ⟨List.mem_of_getElem? (i := 232) (by decide +kernel), by decide +kernel⟩
theorem ac_X2_32 : Cond.methodLink RX2 32 arraycopyName ∈ nf_tbl := List.mem_filter.mpr ⟨List.mem_of_getElem? (i := 233) (by decide +kernel), by decide +kernel⟩
theorem ml_X3_168 : Cond.methodLink RX3 168 yX0_copyFrom ∈ nf_tbl := List.mem_filter.mpr ⟨List.mem_of_getElem? (i := 234) (by decide +kernel), by decide +kernel⟩
theorem im_X0_copyFrom : Cond.instanceMethod yX0_copyFrom ∈ nf_tbl := List.mem_filter.mpr ⟨List.mem_of_getElem? (i := 235) (by decide +kernel), by decide +kernel⟩
theorem se_X0_copyFrom : Cond.selects RX0 yX0_copyFrom yX0_copyFrom ∈ nf_tbl := List.mem_filter.mpr ⟨List.mem_of_getElem? (i := 236) (by decide +kernel), by decide +kernel⟩
theorem cd_X0_copyFrom : Cond.code yX0_copyFrom cX0_copyFrom 2 none ∈ nf_tbl := List.mem_filter.mpr ⟨List.mem_of_getElem? (i := 237) (by decide +kernel), by decide +kernel⟩
theorem ac_X0_31 : Cond.methodLink RX0 31 arraycopyName ∈ nf_tbl := List.mem_filter.mpr ⟨List.mem_of_getElem? (i := 238) (by decide +kernel), by decide +kernel⟩
theorem ml_X3_171 : Cond.methodLink RX3 171 yX1_copyFrom ∈ nf_tbl := List.mem_filter.mpr ⟨List.mem_of_getElem? (i := 239) (by decide +kernel), by decide +kernel⟩
theorem im_X1_copyFrom : Cond.instanceMethod yX1_copyFrom ∈ nf_tbl := List.mem_filter.mpr ⟨List.mem_of_getElem? (i := 240) (by decide +kernel), by decide +kernel⟩
theorem se_X1_copyFrom : Cond.selects RX1 yX1_copyFrom yX1_copyFrom ∈ nf_tbl := List.mem_filter.mpr ⟨List.mem_of_getElem? (i := 241) (by decide +kernel), by decide +kernel⟩
theorem cd_X1_copyFrom : Cond.code yX1_copyFrom cX1_copyFrom 2 none ∈ nf_tbl := List.mem_filter.mpr ⟨List.mem_of_getElem? (i := 242) (by decide +kernel), by decide +kernel⟩
theorem ac_X1_41 : Cond.methodLink RX1 41 arraycopyName ∈ nf_tbl := List.mem_filter.mpr ⟨List.mem_of_getElem? (i := 243) (by decide +kernel), by decide +kernel⟩
theorem ml_X3_114 : Cond.methodLink RX3 114 yX4_copyFrom ∈ nf_tbl := List.mem_filter.mpr ⟨List.mem_of_getElem? (i := 244) (by decide +kernel), by decide +kernel⟩
theorem im_X4_copyFrom : Cond.instanceMethod yX4_copyFrom ∈ nf_tbl := List.mem_filter.mpr ⟨List.mem_of_getElem? (i := 245) (by decide +kernel), by decide +kernel⟩
theorem se_X4_copyFrom : Cond.selects RX4 yX4_copyFrom yX4_copyFrom ∈ nf_tbl := List.mem_filter.mpr ⟨List.mem_of_getElem? (i := 246) (by decide +kernel), by decide +kernel⟩
theorem cd_X4_copyFrom : Cond.code yX4_copyFrom cX4_copyFrom 2 none ∈ nf_tbl := List.mem_filter.mpr ⟨List.mem_of_getElem? (i := 247) (by decide +kernel), by decide +kernel⟩
theorem ac_X4_34 : Cond.methodLink RX4 34 arraycopyName ∈ nf_tbl := List.mem_filter.mpr ⟨List.mem_of_getElem? (i := 248) (by decide +kernel), by decide +kernel⟩
theorem ml_X5_59 : Cond.methodLink RX5 59 yX2_append ∈ nf_tbl := List.mem_filter.mpr ⟨List.mem_of_getElem? (i := 249) (by decide +kernel), by decide +kernel⟩
theorem im_X2_append : Cond.instanceMethod yX2_append ∈ nf_tbl := List.mem_filter.mpr ⟨List.mem_of_getElem? (i := 250) (by decide +kernel), by decide +kernel⟩
theorem se_X2_append : Cond.selects RX2 yX2_append yX2_append ∈ nf_tbl := List.mem_filter.mpr ⟨List.mem_of_getElem? (i := 251) (by decide +kernel), by decide +kernel⟩
theorem cd_X2_append : Cond.code yX2_append cX2_append 4 (some .int) ∈ nf_tbl := List.mem_filter.mpr ⟨List.mem_of_getElem? (i := 252) (by decide +kernel), by decide +kernel⟩
theorem ml_L_18 : Cond.methodLink RL 18 yX5_removeLink ∈ nf_tbl := List.mem_filter.mpr ⟨List.mem_of_getElem? (i := 253) (by decide +kernel), by decide +kernel⟩
theorem im_X5_removeLink : Cond.instanceMethod yX5_removeLink ∈ nf_tbl := List.mem_filter.mpr ⟨List.mem_of_getElem? (i := 254) (by decide +kernel), by decide +kernel⟩
theorem se_X5_removeLink : Cond.selects RX5 yX5_removeLink yX5_removeLink ∈ nf_tbl := List.mem_filter.mpr ⟨List.mem_of_getElem? (i := 255) (by decide +kernel), by decide +kernel⟩
theorem cd_X5_removeLink : Cond.code yX5_removeLink cX5_removeLink 2 (some .int) ∈ nf_tbl := List.mem_filter.mpr ⟨List.mem_of_getElem? (i := 256) (by decide +kernel), by decide +kernel⟩
theorem ml_X5_63 : Cond.methodLink RX5 63 yX2_delete ∈ nf_tbl := List.mem_filter.mpr ⟨List.mem_of_getElem? (i := 257) (by decide +kernel), by decide +kernel⟩
theorem im_X2_delete : Cond.instanceMethod yX2_delete ∈ nf_tbl := List.mem_filter.mpr ⟨List.mem_of_getElem? (i := 258) (by decide +kernel), by decide +kernel⟩
theorem se_X2_delete : Cond.selects RX2 yX2_delete yX2_delete ∈ nf_tbl := List.mem_filter.mpr ⟨List.mem_of_getElem? (i := 259) (by decide +kernel), by decide +kernel⟩
theorem cd_X2_delete : Cond.code yX2_delete cX2_delete 3 none ∈ nf_tbl := List.mem_filter.mpr ⟨List.mem_of_getElem? (i := 260) (by decide +kernel), by decide +kernel⟩
theorem ml_L_23 : Cond.methodLink RL 23 yX5_setKind ∈ nf_tbl := List.mem_filter.mpr ⟨List.mem_of_getElem? (i := 262) (by decide +kernel), by decide +kernel⟩
theorem im_X5_setKind : Cond.instanceMethod yX5_setKind ∈ nf_tbl := List.mem_filter.mpr ⟨List.mem_of_getElem? (i := 263) (by decide +kernel), by decide +kernel⟩
theorem se_X5_setKind : Cond.selects RX5 yX5_setKind yX5_setKind ∈ nf_tbl := List.mem_filter.mpr ⟨List.mem_of_getElem? (i := 264) (by decide +kernel), by decide +kernel⟩
theorem cd_X5_setKind : Cond.code yX5_setKind cX5_setKind 4 (some .int) ∈ nf_tbl := List.mem_filter.mpr ⟨List.mem_of_getElem? (i := 265) (by decide +kernel), by decide +kernel⟩
theorem ml_L_28 : Cond.methodLink RL 28 yX5_setGroups ∈ nf_tbl := List.mem_filter.mpr ⟨List.mem_of_getElem? (i := 266) (by decide +kernel), by decide +kernel⟩
theorem im_X5_setGroups : Cond.instanceMethod yX5_setGroups ∈ nf_tbl := List.mem_filter.mpr ⟨List.mem_of_getElem? (i := 267) (by decide +kernel), by decide +kernel⟩
theorem se_X5_setGroups : Cond.selects RX5 yX5_setGroups yX5_setGroups ∈ nf_tbl := List.mem_filter.mpr ⟨List.mem_of_getElem? (i := 268) (by decide +kernel), by decide +kernel⟩
theorem cd_X5_setGroups : Cond.code yX5_setGroups cX5_setGroups 4 (some .int) ∈ nf_tbl := List.mem_filter.mpr ⟨List.mem_of_getElem? (i := 269) (by decide +kernel), by decide +kernel⟩
theorem ml_L_32 : Cond.methodLink RL 32 yX5_setExpiry ∈ nf_tbl := List.mem_filter.mpr ⟨List.mem_of_getElem? (i := 270) (by decide +kernel), by decide +kernel⟩
theorem im_X5_setExpiry : Cond.instanceMethod yX5_setExpiry ∈ nf_tbl := List.mem_filter.mpr ⟨List.mem_of_getElem? (i := 271) (by decide +kernel), by decide +kernel⟩
theorem se_X5_setExpiry : Cond.selects RX5 yX5_setExpiry yX5_setExpiry ∈ nf_tbl := List.mem_filter.mpr ⟨List.mem_of_getElem? (i := 272) (by decide +kernel), by decide +kernel⟩
theorem cd_X5_setExpiry : Cond.code yX5_setExpiry cX5_setExpiry 4 (some .int) ∈ nf_tbl := List.mem_filter.mpr ⟨List.mem_of_getElem? (i := 273) (by decide +kernel), by decide +kernel⟩
theorem ml_X5_79 : Cond.methodLink RX5 79 yX5_isLimit ∈ nf_tbl := List.mem_filter.mpr ⟨List.mem_of_getElem? (i := 274) (by decide +kernel), by decide +kernel⟩
theorem st_X5_isLimit : Cond.static yX5_isLimit ∈ nf_tbl := List.mem_filter.mpr ⟨List.mem_of_getElem? (i := 275) (by decide +kernel), by decide +kernel⟩
theorem cd_X5_isLimit : Cond.code yX5_isLimit cX5_isLimit 1 (some .boolean) ∈ nf_tbl := List.mem_filter.mpr ⟨List.mem_of_getElem? (i := 276) (by decide +kernel), by decide +kernel⟩
theorem ml_L_36 : Cond.methodLink RL 36 yX5_setHistoryLimit ∈ nf_tbl := List.mem_filter.mpr ⟨List.mem_of_getElem? (i := 277) (by decide +kernel), by decide +kernel⟩
theorem im_X5_setHistoryLimit : Cond.instanceMethod yX5_setHistoryLimit ∈ nf_tbl := List.mem_filter.mpr ⟨List.mem_of_getElem? (i := 278) (by decide +kernel), by decide +kernel⟩
theorem se_X5_setHistoryLimit : Cond.selects RX5 yX5_setHistoryLimit yX5_setHistoryLimit ∈ nf_tbl := List.mem_filter.mpr ⟨List.mem_of_getElem? (i := 279) (by decide +kernel), by decide +kernel⟩
theorem cd_X5_setHistoryLimit : Cond.code yX5_setHistoryLimit cX5_setHistoryLimit 3 (some .int) ∈ nf_tbl := List.mem_filter.mpr ⟨List.mem_of_getElem? (i := 280) (by decide +kernel), by decide +kernel⟩
theorem ml_L_40 : Cond.methodLink RL 40 yX5_post ∈ nf_tbl := List.mem_filter.mpr ⟨List.mem_of_getElem? (i := 281) (by decide +kernel), by decide +kernel⟩
theorem im_X5_post : Cond.instanceMethod yX5_post ∈ nf_tbl := List.mem_filter.mpr ⟨List.mem_of_getElem? (i := 282) (by decide +kernel), by decide +kernel⟩
theorem se_X5_post : Cond.selects RX5 yX5_post yX5_post ∈ nf_tbl := List.mem_filter.mpr ⟨List.mem_of_getElem? (i := 283) (by decide +kernel), by decide +kernel⟩
theorem cd_X5_post : Cond.code yX5_post cX5_post 4 (some .int) ∈ nf_tbl := List.mem_filter.mpr ⟨List.mem_of_getElem? (i := 284) (by decide +kernel), by decide +kernel⟩
theorem ml_X5_89 : Cond.methodLink RX5 89 yX5_publish ∈ nf_tbl := List.mem_filter.mpr ⟨List.mem_of_getElem? (i := 285) (by decide +kernel), by decide +kernel⟩
theorem im_X5_publish : Cond.instanceMethod yX5_publish ∈ nf_tbl := List.mem_filter.mpr ⟨List.mem_of_getElem? (i := 287) (by decide +kernel), by decide +kernel⟩
theorem cd_X5_publish : Cond.code yX5_publish cX5_publish 7 (some .int) ∈ nf_tbl := List.mem_filter.mpr ⟨List.mem_of_getElem? (i := 288) (by decide +kernel), by decide +kernel⟩
theorem ml_X5_170 : Cond.methodLink RX5 170 yX0_append ∈ nf_tbl := List.mem_filter.mpr ⟨List.mem_of_getElem? (i := 289) (by decide +kernel), by decide +kernel⟩
theorem im_X0_append : Cond.instanceMethod yX0_append ∈ nf_tbl := List.mem_filter.mpr ⟨List.mem_of_getElem? (i := 290) (by decide +kernel), by decide +kernel⟩
theorem se_X0_append : Cond.selects RX0 yX0_append yX0_append ∈ nf_tbl := List.mem_filter.mpr ⟨List.mem_of_getElem? (i := 291) (by decide +kernel), by decide +kernel⟩
theorem cd_X0_append : Cond.code yX0_append cX0_append 6 (some .int) ∈ nf_tbl := List.mem_filter.mpr ⟨List.mem_of_getElem? (i := 292) (by decide +kernel), by decide +kernel⟩
theorem ml_X5_172 : Cond.methodLink RX5 172 yX3_arrive ∈ nf_tbl := List.mem_filter.mpr ⟨List.mem_of_getElem? (i := 293) (by decide +kernel), by decide +kernel⟩
theorem im_X3_arrive : Cond.instanceMethod yX3_arrive ∈ nf_tbl := List.mem_filter.mpr ⟨List.mem_of_getElem? (i := 294) (by decide +kernel), by decide +kernel⟩
theorem se_X3_arrive : Cond.selects RX3 yX3_arrive yX3_arrive ∈ nf_tbl := List.mem_filter.mpr ⟨List.mem_of_getElem? (i := 295) (by decide +kernel), by decide +kernel⟩
theorem cd_X3_arrive : Cond.code yX3_arrive cX3_arrive 6 (some .boolean) ∈ nf_tbl := List.mem_filter.mpr ⟨List.mem_of_getElem? (i := 296) (by decide +kernel), by decide +kernel⟩
theorem ml_X3_59 : Cond.methodLink RX3 59 yX1_knows ∈ nf_tbl := List.mem_filter.mpr ⟨List.mem_of_getElem? (i := 297) (by decide +kernel), by decide +kernel⟩
theorem im_X1_knows : Cond.instanceMethod yX1_knows ∈ nf_tbl := List.mem_filter.mpr ⟨List.mem_of_getElem? (i := 298) (by decide +kernel), by decide +kernel⟩
theorem se_X1_knows : Cond.selects RX1 yX1_knows yX1_knows ∈ nf_tbl := List.mem_filter.mpr ⟨List.mem_of_getElem? (i := 299) (by decide +kernel), by decide +kernel⟩
theorem cd_X1_knows : Cond.code yX1_knows cX1_knows 2 (some .boolean) ∈ nf_tbl := List.mem_filter.mpr ⟨List.mem_of_getElem? (i := 300) (by decide +kernel), by decide +kernel⟩
theorem ml_X3_72 : Cond.methodLink RX3 72 yX1_takeCancel ∈ nf_tbl := List.mem_filter.mpr ⟨List.mem_of_getElem? (i := 301) (by decide +kernel), by decide +kernel⟩
theorem im_X1_takeCancel : Cond.instanceMethod yX1_takeCancel ∈ nf_tbl := List.mem_filter.mpr ⟨List.mem_of_getElem? (i := 302) (by decide +kernel), by decide +kernel⟩
theorem se_X1_takeCancel : Cond.selects RX1 yX1_takeCancel yX1_takeCancel ∈ nf_tbl := List.mem_filter.mpr ⟨List.mem_of_getElem? (i := 303) (by decide +kernel), by decide +kernel⟩
theorem cd_X1_takeCancel : Cond.code yX1_takeCancel cX1_takeCancel 4 (some .boolean) ∈ nf_tbl := List.mem_filter.mpr ⟨List.mem_of_getElem? (i := 304) (by decide +kernel), by decide +kernel⟩
theorem st_X5_has : Cond.static yX5_has ∈ nf_tbl := List.mem_filter.mpr ⟨List.mem_of_getElem? (i := 306) (by decide +kernel), by decide +kernel⟩
theorem cd_X5_has : Cond.code yX5_has cX5_has 2 (some .boolean) ∈ nf_tbl := List.mem_filter.mpr ⟨List.mem_of_getElem? (i := 307) (by decide +kernel), by decide +kernel⟩
theorem ml_X3_79 : Cond.methodLink RX3 79 yX1_carries ∈ nf_tbl := List.mem_filter.mpr ⟨List.mem_of_getElem? (i := 308) (by decide +kernel), by decide +kernel⟩
theorem im_X1_carries : Cond.instanceMethod yX1_carries ∈ nf_tbl := List.mem_filter.mpr ⟨List.mem_of_getElem? (i := 309) (by decide +kernel), by decide +kernel⟩
theorem se_X1_carries : Cond.selects RX1 yX1_carries yX1_carries ∈ nf_tbl := List.mem_filter.mpr ⟨List.mem_of_getElem? (i := 310) (by decide +kernel), by decide +kernel⟩
theorem cd_X1_carries : Cond.code yX1_carries cX1_carries 2 (some .boolean) ∈ nf_tbl := List.mem_filter.mpr ⟨List.mem_of_getElem? (i := 311) (by decide +kernel), by decide +kernel⟩
theorem ml_X3_82 : Cond.methodLink RX3 82 yX1_keep ∈ nf_tbl := List.mem_filter.mpr ⟨List.mem_of_getElem? (i := 312) (by decide +kernel), by decide +kernel⟩
theorem im_X1_keep : Cond.instanceMethod yX1_keep ∈ nf_tbl := List.mem_filter.mpr ⟨List.mem_of_getElem? (i := 313) (by decide +kernel), by decide +kernel⟩
theorem se_X1_keep : Cond.selects RX1 yX1_keep yX1_keep ∈ nf_tbl := List.mem_filter.mpr ⟨List.mem_of_getElem? (i := 314) (by decide +kernel), by decide +kernel⟩
theorem cd_X1_keep : Cond.code yX1_keep cX1_keep 2 none ∈ nf_tbl := List.mem_filter.mpr ⟨List.mem_of_getElem? (i := 315) (by decide +kernel), by decide +kernel⟩
theorem ml_X3_89 : Cond.methodLink RX3 89 yX3_actOnTarget ∈ nf_tbl := List.mem_filter.mpr ⟨List.mem_of_getElem? (i := 316) (by decide +kernel), by decide +kernel⟩
theorem im_X3_actOnTarget : Cond.instanceMethod yX3_actOnTarget ∈ nf_tbl := List.mem_filter.mpr ⟨List.mem_of_getElem? (i := 317) (by decide +kernel), by decide +kernel⟩
theorem se_X3_actOnTarget : Cond.selects RX3 yX3_actOnTarget yX3_actOnTarget ∈ nf_tbl := List.mem_filter.mpr ⟨List.mem_of_getElem? (i := 318) (by decide +kernel), by decide +kernel⟩
theorem cd_X3_actOnTarget : Cond.code yX3_actOnTarget cX3_actOnTarget 5 none ∈ nf_tbl := List.mem_filter.mpr ⟨List.mem_of_getElem? (i := 319) (by decide +kernel), by decide +kernel⟩
theorem ml_X3_104 : Cond.methodLink RX3 104 yX1_stores ∈ nf_tbl := List.mem_filter.mpr ⟨List.mem_of_getElem? (i := 320) (by decide +kernel), by decide +kernel⟩
theorem im_X1_stores : Cond.instanceMethod yX1_stores ∈ nf_tbl := List.mem_filter.mpr ⟨List.mem_of_getElem? (i := 321) (by decide +kernel), by decide +kernel⟩
theorem se_X1_stores : Cond.selects RX1 yX1_stores yX1_stores ∈ nf_tbl := List.mem_filter.mpr ⟨List.mem_of_getElem? (i := 322) (by decide +kernel), by decide +kernel⟩
theorem cd_X1_stores : Cond.code yX1_stores cX1_stores 2 (some .boolean) ∈ nf_tbl := List.mem_filter.mpr ⟨List.mem_of_getElem? (i := 323) (by decide +kernel), by decide +kernel⟩
theorem ml_X3_107 : Cond.methodLink RX3 107 yX1_drop ∈ nf_tbl := List.mem_filter.mpr ⟨List.mem_of_getElem? (i := 324) (by decide +kernel), by decide +kernel⟩
theorem im_X1_drop : Cond.instanceMethod yX1_drop ∈ nf_tbl := List.mem_filter.mpr ⟨List.mem_of_getElem? (i := 325) (by decide +kernel), by decide +kernel⟩
theorem se_X1_drop : Cond.selects RX1 yX1_drop yX1_drop ∈ nf_tbl := List.mem_filter.mpr ⟨List.mem_of_getElem? (i := 326) (by decide +kernel), by decide +kernel⟩
theorem cd_X1_drop : Cond.code yX1_drop cX1_drop 2 none ∈ nf_tbl := List.mem_filter.mpr ⟨List.mem_of_getElem? (i := 327) (by decide +kernel), by decide +kernel⟩
theorem ml_X3_110 : Cond.methodLink RX3 110 yX1_addCancel ∈ nf_tbl := List.mem_filter.mpr ⟨List.mem_of_getElem? (i := 328) (by decide +kernel), by decide +kernel⟩
theorem im_X1_addCancel : Cond.instanceMethod yX1_addCancel ∈ nf_tbl := List.mem_filter.mpr ⟨List.mem_of_getElem? (i := 329) (by decide +kernel), by decide +kernel⟩
theorem se_X1_addCancel : Cond.selects RX1 yX1_addCancel yX1_addCancel ∈ nf_tbl := List.mem_filter.mpr ⟨List.mem_of_getElem? (i := 330) (by decide +kernel), by decide +kernel⟩
theorem cd_X1_addCancel : Cond.code yX1_addCancel cX1_addCancel 3 none ∈ nf_tbl := List.mem_filter.mpr ⟨List.mem_of_getElem? (i := 331) (by decide +kernel), by decide +kernel⟩
theorem ml_X3_93 : Cond.methodLink RX3 93 yX2_neighboursOf ∈ nf_tbl := List.mem_filter.mpr ⟨List.mem_of_getElem? (i := 332) (by decide +kernel), by decide +kernel⟩
theorem im_X2_neighboursOf : Cond.instanceMethod yX2_neighboursOf ∈ nf_tbl := List.mem_filter.mpr ⟨List.mem_of_getElem? (i := 333) (by decide +kernel), by decide +kernel⟩
theorem se_X2_neighboursOf : Cond.selects RX2 yX2_neighboursOf yX2_neighboursOf ∈ nf_tbl := List.mem_filter.mpr ⟨List.mem_of_getElem? (i := 334) (by decide +kernel), by decide +kernel⟩
theorem cd_X2_neighboursOf : Cond.code yX2_neighboursOf cX2_neighboursOf 4 (some .int) ∈ nf_tbl := List.mem_filter.mpr ⟨List.mem_of_getElem? (i := 335) (by decide +kernel), by decide +kernel⟩
theorem ml_X3_97 : Cond.methodLink RX3 97 yX4_put ∈ nf_tbl := List.mem_filter.mpr ⟨List.mem_of_getElem? (i := 337) (by decide +kernel), by decide +kernel⟩
theorem im_X4_put : Cond.instanceMethod yX4_put ∈ nf_tbl := List.mem_filter.mpr ⟨List.mem_of_getElem? (i := 338) (by decide +kernel), by decide +kernel⟩
theorem se_X4_put : Cond.selects RX4 yX4_put yX4_put ∈ nf_tbl := List.mem_filter.mpr ⟨List.mem_of_getElem? (i := 339) (by decide +kernel), by decide +kernel⟩
theorem cd_X4_put : Cond.code yX4_put cX4_put 5 none ∈ nf_tbl := List.mem_filter.mpr ⟨List.mem_of_getElem? (i := 340) (by decide +kernel), by decide +kernel⟩
theorem ml_X4_18 : Cond.methodLink RX4 18 yX4_slot ∈ nf_tbl := List.mem_filter.mpr ⟨List.mem_of_getElem? (i := 341) (by decide +kernel), by decide +kernel⟩
theorem st_X4_slot : Cond.static yX4_slot ∈ nf_tbl := List.mem_filter.mpr ⟨List.mem_of_getElem? (i := 342) (by decide +kernel), by decide +kernel⟩
theorem cd_X4_slot : Cond.code yX4_slot cX4_slot 2 (some .int) ∈ nf_tbl := List.mem_filter.mpr ⟨List.mem_of_getElem? (i := 343) (by decide +kernel), by decide +kernel⟩
theorem ml_L_44 : Cond.methodLink RL 44 yX5_postAction ∈ nf_tbl := List.mem_filter.mpr ⟨List.mem_of_getElem? (i := 344) (by decide +kernel), by decide +kernel⟩
theorem im_X5_postAction : Cond.instanceMethod yX5_postAction ∈ nf_tbl := List.mem_filter.mpr ⟨List.mem_of_getElem? (i := 345) (by decide +kernel), by decide +kernel⟩
theorem se_X5_postAction : Cond.selects RX5 yX5_postAction yX5_postAction ∈ nf_tbl := List.mem_filter.mpr ⟨List.mem_of_getElem? (i := 346) (by decide +kernel), by decide +kernel⟩
theorem cd_X5_postAction : Cond.code yX5_postAction cX5_postAction 5 (some .int) ∈ nf_tbl := List.mem_filter.mpr ⟨List.mem_of_getElem? (i := 347) (by decide +kernel), by decide +kernel⟩
theorem ml_X5_93 : Cond.methodLink RX5 93 yX5_isArticle ∈ nf_tbl := List.mem_filter.mpr ⟨List.mem_of_getElem? (i := 348) (by decide +kernel), by decide +kernel⟩
theorem im_X5_isArticle : Cond.instanceMethod yX5_isArticle ∈ nf_tbl := List.mem_filter.mpr ⟨List.mem_of_getElem? (i := 350) (by decide +kernel), by decide +kernel⟩
theorem cd_X5_isArticle : Cond.code yX5_isArticle cX5_isArticle 2 (some .boolean) ∈ nf_tbl := List.mem_filter.mpr ⟨List.mem_of_getElem? (i := 351) (by decide +kernel), by decide +kernel⟩
theorem ml_L_49 : Cond.methodLink RL 49 yX5_round ∈ nf_tbl := List.mem_filter.mpr ⟨List.mem_of_getElem? (i := 352) (by decide +kernel), by decide +kernel⟩
theorem im_X5_round : Cond.instanceMethod yX5_round ∈ nf_tbl := List.mem_filter.mpr ⟨List.mem_of_getElem? (i := 353) (by decide +kernel), by decide +kernel⟩
theorem se_X5_round : Cond.selects RX5 yX5_round yX5_round ∈ nf_tbl := List.mem_filter.mpr ⟨List.mem_of_getElem? (i := 354) (by decide +kernel), by decide +kernel⟩
theorem cd_X5_round : Cond.code yX5_round cX5_round 1 (some .int) ∈ nf_tbl := List.mem_filter.mpr ⟨List.mem_of_getElem? (i := 355) (by decide +kernel), by decide +kernel⟩
theorem ml_X5_105 : Cond.methodLink RX5 105 yX3_performRound ∈ nf_tbl := List.mem_filter.mpr ⟨List.mem_of_getElem? (i := 356) (by decide +kernel), by decide +kernel⟩
theorem im_X3_performRound : Cond.instanceMethod yX3_performRound ∈ nf_tbl := List.mem_filter.mpr ⟨List.mem_of_getElem? (i := 357) (by decide +kernel), by decide +kernel⟩
theorem se_X3_performRound : Cond.selects RX3 yX3_performRound yX3_performRound ∈ nf_tbl := List.mem_filter.mpr ⟨List.mem_of_getElem? (i := 358) (by decide +kernel), by decide +kernel⟩
theorem cd_X3_performRound : Cond.code yX3_performRound cX3_performRound 7 (some .int) ∈ nf_tbl := List.mem_filter.mpr ⟨List.mem_of_getElem? (i := 359) (by decide +kernel), by decide +kernel⟩
theorem ml_X3_118 : Cond.methodLink RX3 118 yX4_makeEmpty ∈ nf_tbl := List.mem_filter.mpr ⟨List.mem_of_getElem? (i := 360) (by decide +kernel), by decide +kernel⟩
theorem im_X4_makeEmpty : Cond.instanceMethod yX4_makeEmpty ∈ nf_tbl := List.mem_filter.mpr ⟨List.mem_of_getElem? (i := 361) (by decide +kernel), by decide +kernel⟩
theorem se_X4_makeEmpty : Cond.selects RX4 yX4_makeEmpty yX4_makeEmpty ∈ nf_tbl := List.mem_filter.mpr ⟨List.mem_of_getElem? (i := 362) (by decide +kernel), by decide +kernel⟩
theorem cd_X4_makeEmpty : Cond.code yX4_makeEmpty cX4_makeEmpty 1 none ∈ nf_tbl := List.mem_filter.mpr ⟨List.mem_of_getElem? (i := 363) (by decide +kernel), by decide +kernel⟩
theorem ml_X4_28 : Cond.methodLink RX4 28 yJ7_fill_53178 ∈ nf_tbl := List.mem_filter.mpr ⟨List.mem_of_getElem? (i := 364) (by decide +kernel), by decide +kernel⟩
theorem ml_X3_124 : Cond.methodLink RX3 124 yX4_slot ∈ nf_tbl := List.mem_filter.mpr ⟨List.mem_of_getElem? (i := 365) (by decide +kernel), by decide +kernel⟩
theorem ml_X3_137 : Cond.methodLink RX3 137 yX3_sendTo ∈ nf_tbl := List.mem_filter.mpr ⟨List.mem_of_getElem? (i := 367) (by decide +kernel), by decide +kernel⟩
theorem im_X3_sendTo : Cond.instanceMethod yX3_sendTo ∈ nf_tbl := List.mem_filter.mpr ⟨List.mem_of_getElem? (i := 368) (by decide +kernel), by decide +kernel⟩
theorem se_X3_sendTo : Cond.selects RX3 yX3_sendTo yX3_sendTo ∈ nf_tbl := List.mem_filter.mpr ⟨List.mem_of_getElem? (i := 369) (by decide +kernel), by decide +kernel⟩
theorem cd_X3_sendTo : Cond.code yX3_sendTo cX3_sendTo 6 (some .boolean) ∈ nf_tbl := List.mem_filter.mpr ⟨List.mem_of_getElem? (i := 370) (by decide +kernel), by decide +kernel⟩
theorem ml_X3_141 : Cond.methodLink RX3 141 yX2_between ∈ nf_tbl := List.mem_filter.mpr ⟨List.mem_of_getElem? (i := 371) (by decide +kernel), by decide +kernel⟩
theorem ml_X3_147 : Cond.methodLink RX3 147 yX3_arrive ∈ nf_tbl := List.mem_filter.mpr ⟨List.mem_of_getElem? (i := 372) (by decide +kernel), by decide +kernel⟩
theorem ml_L_54 : Cond.methodLink RL 54 yX5_settle ∈ nf_tbl := List.mem_filter.mpr ⟨List.mem_of_getElem? (i := 373) (by decide +kernel), by decide +kernel⟩
theorem im_X5_settle : Cond.instanceMethod yX5_settle ∈ nf_tbl := List.mem_filter.mpr ⟨List.mem_of_getElem? (i := 374) (by decide +kernel), by decide +kernel⟩
theorem se_X5_settle : Cond.selects RX5 yX5_settle yX5_settle ∈ nf_tbl := List.mem_filter.mpr ⟨List.mem_of_getElem? (i := 375) (by decide +kernel), by decide +kernel⟩
theorem cd_X5_settle : Cond.code yX5_settle cX5_settle 2 (some .int) ∈ nf_tbl := List.mem_filter.mpr ⟨List.mem_of_getElem? (i := 376) (by decide +kernel), by decide +kernel⟩
theorem ml_X5_112 : Cond.methodLink RX5 112 yX4_size ∈ nf_tbl := List.mem_filter.mpr ⟨List.mem_of_getElem? (i := 377) (by decide +kernel), by decide +kernel⟩
theorem im_X4_size : Cond.instanceMethod yX4_size ∈ nf_tbl := List.mem_filter.mpr ⟨List.mem_of_getElem? (i := 378) (by decide +kernel), by decide +kernel⟩
theorem se_X4_size : Cond.selects RX4 yX4_size yX4_size ∈ nf_tbl := List.mem_filter.mpr ⟨List.mem_of_getElem? (i := 379) (by decide +kernel), by decide +kernel⟩
theorem cd_X4_size : Cond.code yX4_size cX4_size 6 (some .int) ∈ nf_tbl := List.mem_filter.mpr ⟨List.mem_of_getElem? (i := 380) (by decide +kernel), by decide +kernel⟩
theorem ml_X4_22 : Cond.methodLink RX4 22 yJ6_bitCount_0f7a4 ∈ nf_tbl := List.mem_filter.mpr ⟨List.mem_of_getElem? (i := 381) (by decide +kernel), by decide +kernel⟩
theorem st_J6_bitCount_0f7a4 : Cond.static yJ6_bitCount_0f7a4 ∈ nf_tbl := List.mem_filter.mpr ⟨List.mem_of_getElem? (i := 382) (by decide +kernel), by decide +kernel⟩
theorem cd_J6_bitCount_0f7a4 : Cond.code yJ6_bitCount_0f7a4 cJ6_bitCount_0f7a4 1 (some .int) ∈ nf_tbl := List.mem_filter.mpr ⟨List.mem_of_getElem? (i := 383) (by decide +kernel), by decide +kernel⟩
theorem kc_J6_265 : Cond.constant RJ6 265 1431655765 ∈ nf_tbl := List.mem_filter.mpr ⟨List.mem_of_getElem? (i := 384) (by decide +kernel), by decide +kernel⟩
theorem kc_J6_266 : Cond.constant RJ6 266 858993459 ∈ nf_tbl := List.mem_filter.mpr ⟨List.mem_of_getElem? (i := 385) (by decide +kernel), by decide +kernel⟩
theorem kc_J6_267 : Cond.constant RJ6 267 252645135 ∈ nf_tbl := List.mem_filter.mpr ⟨List.mem_of_getElem? (i := 386) (by decide +kernel), by decide +kernel⟩
theorem ml_L_58 : Cond.methodLink RL 58 yX5_nextDay ∈ nf_tbl := List.mem_filter.mpr ⟨List.mem_of_getElem? (i := 387) (by decide +kernel), by decide +kernel⟩
theorem im_X5_nextDay : Cond.instanceMethod yX5_nextDay ∈ nf_tbl := List.mem_filter.mpr ⟨List.mem_of_getElem? (i := 388) (by decide +kernel), by decide +kernel⟩
theorem se_X5_nextDay : Cond.selects RX5 yX5_nextDay yX5_nextDay ∈ nf_tbl := List.mem_filter.mpr ⟨List.mem_of_getElem? (i := 389) (by decide +kernel), by decide +kernel⟩
theorem cd_X5_nextDay : Cond.code yX5_nextDay cX5_nextDay 1 (some .int) ∈ nf_tbl := List.mem_filter.mpr ⟨List.mem_of_getElem? (i := 390) (by decide +kernel), by decide +kernel⟩
theorem ml_X5_116 : Cond.methodLink RX5 116 yX3_beginDay ∈ nf_tbl := List.mem_filter.mpr ⟨List.mem_of_getElem? (i := 391) (by decide +kernel), by decide +kernel⟩
theorem im_X3_beginDay : Cond.instanceMethod yX3_beginDay ∈ nf_tbl := List.mem_filter.mpr ⟨List.mem_of_getElem? (i := 392) (by decide +kernel), by decide +kernel⟩
theorem se_X3_beginDay : Cond.selects RX3 yX3_beginDay yX3_beginDay ∈ nf_tbl := List.mem_filter.mpr ⟨List.mem_of_getElem? (i := 393) (by decide +kernel), by decide +kernel⟩
theorem cd_X3_beginDay : Cond.code yX3_beginDay cX3_beginDay 3 (some .int) ∈ nf_tbl := List.mem_filter.mpr ⟨List.mem_of_getElem? (i := 394) (by decide +kernel), by decide +kernel⟩
theorem ml_X3_151 : Cond.methodLink RX3 151 yX3_expireStore ∈ nf_tbl := List.mem_filter.mpr ⟨List.mem_of_getElem? (i := 395) (by decide +kernel), by decide +kernel⟩
theorem im_X3_expireStore : Cond.instanceMethod yX3_expireStore ∈ nf_tbl := List.mem_filter.mpr ⟨List.mem_of_getElem? (i := 396) (by decide +kernel), by decide +kernel⟩
theorem se_X3_expireStore : Cond.selects RX3 yX3_expireStore yX3_expireStore ∈ nf_tbl := List.mem_filter.mpr ⟨List.mem_of_getElem? (i := 397) (by decide +kernel), by decide +kernel⟩
theorem cd_X3_expireStore : Cond.code yX3_expireStore cX3_expireStore 5 (some .int) ∈ nf_tbl := List.mem_filter.mpr ⟨List.mem_of_getElem? (i := 398) (by decide +kernel), by decide +kernel⟩
theorem ml_X3_155 : Cond.methodLink RX3 155 yX3_forgetOld ∈ nf_tbl := List.mem_filter.mpr ⟨List.mem_of_getElem? (i := 399) (by decide +kernel), by decide +kernel⟩
theorem im_X3_forgetOld : Cond.instanceMethod yX3_forgetOld ∈ nf_tbl := List.mem_filter.mpr ⟨List.mem_of_getElem? (i := 400) (by decide +kernel), by decide +kernel⟩
theorem se_X3_forgetOld : Cond.selects RX3 yX3_forgetOld yX3_forgetOld ∈ nf_tbl := List.mem_filter.mpr ⟨List.mem_of_getElem? (i := 401) (by decide +kernel), by decide +kernel⟩
theorem cd_X3_forgetOld : Cond.code yX3_forgetOld cX3_forgetOld 3 none ∈ nf_tbl := List.mem_filter.mpr ⟨List.mem_of_getElem? (i := 402) (by decide +kernel), by decide +kernel⟩
theorem ml_L_62 : Cond.methodLink RL 62 yX5_isStored ∈ nf_tbl := List.mem_filter.mpr ⟨List.mem_of_getElem? (i := 403) (by decide +kernel), by decide +kernel⟩
theorem im_X5_isStored : Cond.instanceMethod yX5_isStored ∈ nf_tbl := List.mem_filter.mpr ⟨List.mem_of_getElem? (i := 404) (by decide +kernel), by decide +kernel⟩
theorem se_X5_isStored : Cond.selects RX5 yX5_isStored yX5_isStored ∈ nf_tbl := List.mem_filter.mpr ⟨List.mem_of_getElem? (i := 405) (by decide +kernel), by decide +kernel⟩
theorem cd_X5_isStored : Cond.code yX5_isStored cX5_isStored 3 (some .int) ∈ nf_tbl := List.mem_filter.mpr ⟨List.mem_of_getElem? (i := 406) (by decide +kernel), by decide +kernel⟩
theorem ml_X5_119 : Cond.methodLink RX5 119 yX1_stores ∈ nf_tbl := List.mem_filter.mpr ⟨List.mem_of_getElem? (i := 407) (by decide +kernel), by decide +kernel⟩
theorem ml_L_66 : Cond.methodLink RL 66 yX5_knownSince ∈ nf_tbl := List.mem_filter.mpr ⟨List.mem_of_getElem? (i := 408) (by decide +kernel), by decide +kernel⟩
theorem im_X5_knownSince : Cond.instanceMethod yX5_knownSince ∈ nf_tbl := List.mem_filter.mpr ⟨List.mem_of_getElem? (i := 409) (by decide +kernel), by decide +kernel⟩
theorem se_X5_knownSince : Cond.selects RX5 yX5_knownSince yX5_knownSince ∈ nf_tbl := List.mem_filter.mpr ⟨List.mem_of_getElem? (i := 410) (by decide +kernel), by decide +kernel⟩
theorem cd_X5_knownSince : Cond.code yX5_knownSince cX5_knownSince 3 (some .int) ∈ nf_tbl := List.mem_filter.mpr ⟨List.mem_of_getElem? (i := 411) (by decide +kernel), by decide +kernel⟩
theorem ml_L_70 : Cond.methodLink RL 70 yX5_pendingCancels ∈ nf_tbl := List.mem_filter.mpr ⟨List.mem_of_getElem? (i := 412) (by decide +kernel), by decide +kernel⟩
theorem im_X5_pendingCancels : Cond.instanceMethod yX5_pendingCancels ∈ nf_tbl := List.mem_filter.mpr ⟨List.mem_of_getElem? (i := 413) (by decide +kernel), by decide +kernel⟩
theorem se_X5_pendingCancels : Cond.selects RX5 yX5_pendingCancels yX5_pendingCancels ∈ nf_tbl := List.mem_filter.mpr ⟨List.mem_of_getElem? (i := 414) (by decide +kernel), by decide +kernel⟩
theorem cd_X5_pendingCancels : Cond.code yX5_pendingCancels cX5_pendingCancels 2 (some .int) ∈ nf_tbl := List.mem_filter.mpr ⟨List.mem_of_getElem? (i := 415) (by decide +kernel), by decide +kernel⟩
theorem ml_X5_125 : Cond.methodLink RX5 125 yX1_countCancels ∈ nf_tbl := List.mem_filter.mpr ⟨List.mem_of_getElem? (i := 416) (by decide +kernel), by decide +kernel⟩
theorem im_X1_countCancels : Cond.instanceMethod yX1_countCancels ∈ nf_tbl := List.mem_filter.mpr ⟨List.mem_of_getElem? (i := 417) (by decide +kernel), by decide +kernel⟩
theorem se_X1_countCancels : Cond.selects RX1 yX1_countCancels yX1_countCancels ∈ nf_tbl := List.mem_filter.mpr ⟨List.mem_of_getElem? (i := 418) (by decide +kernel), by decide +kernel⟩
theorem cd_X1_countCancels : Cond.code yX1_countCancels cX1_countCancels 6 (some .int) ∈ nf_tbl := List.mem_filter.mpr ⟨List.mem_of_getElem? (i := 419) (by decide +kernel), by decide +kernel⟩
theorem ml_X1_35 : Cond.methodLink RX1 35 yJ6_bitCount_0f7a4 ∈ nf_tbl := List.mem_filter.mpr ⟨List.mem_of_getElem? (i := 420) (by decide +kernel), by decide +kernel⟩
theorem ml_L_74 : Cond.methodLink RL 74 yX5_holders ∈ nf_tbl := List.mem_filter.mpr ⟨List.mem_of_getElem? (i := 421) (by decide +kernel), by decide +kernel⟩
theorem im_X5_holders : Cond.instanceMethod yX5_holders ∈ nf_tbl := List.mem_filter.mpr ⟨List.mem_of_getElem? (i := 422) (by decide +kernel), by decide +kernel⟩
theorem se_X5_holders : Cond.selects RX5 yX5_holders yX5_holders ∈ nf_tbl := List.mem_filter.mpr ⟨List.mem_of_getElem? (i := 423) (by decide +kernel), by decide +kernel⟩
theorem cd_X5_holders : Cond.code yX5_holders cX5_holders 4 (some .int) ∈ nf_tbl := List.mem_filter.mpr ⟨List.mem_of_getElem? (i := 424) (by decide +kernel), by decide +kernel⟩
theorem ml_L_78 : Cond.methodLink RL 78 yX5_storedInGroup ∈ nf_tbl := List.mem_filter.mpr ⟨List.mem_of_getElem? (i := 425) (by decide +kernel), by decide +kernel⟩
theorem im_X5_storedInGroup : Cond.instanceMethod yX5_storedInGroup ∈ nf_tbl := List.mem_filter.mpr ⟨List.mem_of_getElem? (i := 426) (by decide +kernel), by decide +kernel⟩
theorem se_X5_storedInGroup : Cond.selects RX5 yX5_storedInGroup yX5_storedInGroup ∈ nf_tbl := List.mem_filter.mpr ⟨List.mem_of_getElem? (i := 427) (by decide +kernel), by decide +kernel⟩
theorem cd_X5_storedInGroup : Cond.code yX5_storedInGroup cX5_storedInGroup 5 (some .int) ∈ nf_tbl := List.mem_filter.mpr ⟨List.mem_of_getElem? (i := 428) (by decide +kernel), by decide +kernel⟩
theorem ml_L_82 : Cond.methodLink RL 82 yX5_distance ∈ nf_tbl := List.mem_filter.mpr ⟨List.mem_of_getElem? (i := 429) (by decide +kernel), by decide +kernel⟩
theorem im_X5_distance : Cond.instanceMethod yX5_distance ∈ nf_tbl := List.mem_filter.mpr ⟨List.mem_of_getElem? (i := 430) (by decide +kernel), by decide +kernel⟩
theorem se_X5_distance : Cond.selects RX5 yX5_distance yX5_distance ∈ nf_tbl := List.mem_filter.mpr ⟨List.mem_of_getElem? (i := 431) (by decide +kernel), by decide +kernel⟩
theorem cd_X5_distance : Cond.code yX5_distance cX5_distance 5 (some .int) ∈ nf_tbl := List.mem_filter.mpr ⟨List.mem_of_getElem? (i := 432) (by decide +kernel), by decide +kernel⟩
theorem ml_X5_129 : Cond.methodLink RX5 129 yX5_has ∈ nf_tbl := List.mem_filter.mpr ⟨List.mem_of_getElem? (i := 433) (by decide +kernel), by decide +kernel⟩
theorem ml_X5_132 : Cond.methodLink RX5 132 yX2_neighboursOf ∈ nf_tbl := List.mem_filter.mpr ⟨List.mem_of_getElem? (i := 434) (by decide +kernel), by decide +kernel⟩
theorem ml_L_86 : Cond.methodLink RL 86 yX5_waiting ∈ nf_tbl := List.mem_filter.mpr ⟨List.mem_of_getElem? (i := 435) (by decide +kernel), by decide +kernel⟩
theorem im_X5_waiting : Cond.instanceMethod yX5_waiting ∈ nf_tbl := List.mem_filter.mpr ⟨List.mem_of_getElem? (i := 436) (by decide +kernel), by decide +kernel⟩
theorem se_X5_waiting : Cond.selects RX5 yX5_waiting yX5_waiting ∈ nf_tbl := List.mem_filter.mpr ⟨List.mem_of_getElem? (i := 437) (by decide +kernel), by decide +kernel⟩
theorem cd_X5_waiting : Cond.code yX5_waiting cX5_waiting 1 (some .int) ∈ nf_tbl := List.mem_filter.mpr ⟨List.mem_of_getElem? (i := 438) (by decide +kernel), by decide +kernel⟩
theorem ml_L_90 : Cond.methodLink RL 90 yX5_total ∈ nf_tbl := List.mem_filter.mpr ⟨List.mem_of_getElem? (i := 439) (by decide +kernel), by decide +kernel⟩
theorem im_X5_total : Cond.instanceMethod yX5_total ∈ nf_tbl := List.mem_filter.mpr ⟨List.mem_of_getElem? (i := 440) (by decide +kernel), by decide +kernel⟩
theorem se_X5_total : Cond.selects RX5 yX5_total yX5_total ∈ nf_tbl := List.mem_filter.mpr ⟨List.mem_of_getElem? (i := 441) (by decide +kernel), by decide +kernel⟩
theorem cd_X5_total : Cond.code yX5_total cX5_total 2 (some .int) ∈ nf_tbl := List.mem_filter.mpr ⟨List.mem_of_getElem? (i := 442) (by decide +kernel), by decide +kernel⟩
theorem ml_L_94 : Cond.methodLink RL 94 yX5_day ∈ nf_tbl := List.mem_filter.mpr ⟨List.mem_of_getElem? (i := 443) (by decide +kernel), by decide +kernel⟩
theorem im_X5_day : Cond.instanceMethod yX5_day ∈ nf_tbl := List.mem_filter.mpr ⟨List.mem_of_getElem? (i := 444) (by decide +kernel), by decide +kernel⟩
theorem se_X5_day : Cond.selects RX5 yX5_day yX5_day ∈ nf_tbl := List.mem_filter.mpr ⟨List.mem_of_getElem? (i := 445) (by decide +kernel), by decide +kernel⟩
theorem cd_X5_day : Cond.code yX5_day cX5_day 1 (some .int) ∈ nf_tbl := List.mem_filter.mpr ⟨List.mem_of_getElem? (i := 446) (by decide +kernel), by decide +kernel⟩
theorem ml_L_98 : Cond.methodLink RL 98 yX5_undo ∈ nf_tbl := List.mem_filter.mpr ⟨List.mem_of_getElem? (i := 447) (by decide +kernel), by decide +kernel⟩
theorem im_X5_undo : Cond.instanceMethod yX5_undo ∈ nf_tbl := List.mem_filter.mpr ⟨List.mem_of_getElem? (i := 448) (by decide +kernel), by decide +kernel⟩
theorem se_X5_undo : Cond.selects RX5 yX5_undo yX5_undo ∈ nf_tbl := List.mem_filter.mpr ⟨List.mem_of_getElem? (i := 449) (by decide +kernel), by decide +kernel⟩
theorem cd_X5_undo : Cond.code yX5_undo cX5_undo 1 (some .int) ∈ nf_tbl := List.mem_filter.mpr ⟨List.mem_of_getElem? (i := 450) (by decide +kernel), by decide +kernel⟩
theorem ml_L_102 : Cond.methodLink RL 102 yX5_errorCount ∈ nf_tbl := List.mem_filter.mpr ⟨List.mem_of_getElem? (i := 451) (by decide +kernel), by decide +kernel⟩
theorem im_X5_errorCount : Cond.instanceMethod yX5_errorCount ∈ nf_tbl := List.mem_filter.mpr ⟨List.mem_of_getElem? (i := 452) (by decide +kernel), by decide +kernel⟩
theorem se_X5_errorCount : Cond.selects RX5 yX5_errorCount yX5_errorCount ∈ nf_tbl := List.mem_filter.mpr ⟨List.mem_of_getElem? (i := 453) (by decide +kernel), by decide +kernel⟩
theorem cd_X5_errorCount : Cond.code yX5_errorCount cX5_errorCount 3 (some .int) ∈ nf_tbl := List.mem_filter.mpr ⟨List.mem_of_getElem? (i := 454) (by decide +kernel), by decide +kernel⟩
theorem ml_L_106 : Cond.methodLink RL 106 yX5_digest ∈ nf_tbl := List.mem_filter.mpr ⟨List.mem_of_getElem? (i := 455) (by decide +kernel), by decide +kernel⟩
theorem im_X5_digest : Cond.instanceMethod yX5_digest ∈ nf_tbl := List.mem_filter.mpr ⟨List.mem_of_getElem? (i := 456) (by decide +kernel), by decide +kernel⟩
theorem se_X5_digest : Cond.selects RX5 yX5_digest yX5_digest ∈ nf_tbl := List.mem_filter.mpr ⟨List.mem_of_getElem? (i := 457) (by decide +kernel), by decide +kernel⟩
theorem cd_X5_digest : Cond.code yX5_digest cX5_digest 4 (some .long) ∈ nf_tbl := List.mem_filter.mpr ⟨List.mem_of_getElem? (i := 458) (by decide +kernel), by decide +kernel⟩
theorem kc_X5_148 : Cond.constantLong RX5 148 2659 ∈ nf_tbl := List.mem_filter.mpr ⟨List.mem_of_getElem? (i := 459) (by decide +kernel), by decide +kernel⟩
theorem ml_X5_150 : Cond.methodLink RX5 150 yX5_mixAll ∈ nf_tbl := List.mem_filter.mpr ⟨List.mem_of_getElem? (i := 460) (by decide +kernel), by decide +kernel⟩
theorem st_X5_mixAll : Cond.static yX5_mixAll ∈ nf_tbl := List.mem_filter.mpr ⟨List.mem_of_getElem? (i := 461) (by decide +kernel), by decide +kernel⟩
theorem cd_X5_mixAll : Cond.code yX5_mixAll cX5_mixAll 9 (some .long) ∈ nf_tbl := List.mem_filter.mpr ⟨List.mem_of_getElem? (i := 462) (by decide +kernel), by decide +kernel⟩
theorem ml_X5_154 : Cond.methodLink RX5 154 yX5_mix ∈ nf_tbl := List.mem_filter.mpr ⟨List.mem_of_getElem? (i := 463) (by decide +kernel), by decide +kernel⟩
theorem st_X5_mix : Cond.static yX5_mix ∈ nf_tbl := List.mem_filter.mpr ⟨List.mem_of_getElem? (i := 464) (by decide +kernel), by decide +kernel⟩
theorem cd_X5_mix : Cond.code yX5_mix cX5_mix 3 (some .long) ∈ nf_tbl := List.mem_filter.mpr ⟨List.mem_of_getElem? (i := 465) (by decide +kernel), by decide +kernel⟩
theorem kc_X5_176 : Cond.constantLong RX5 176 31 ∈ nf_tbl := List.mem_filter.mpr ⟨List.mem_of_getElem? (i := 466) (by decide +kernel), by decide +kernel⟩
theorem ml_X5_158 : Cond.methodLink RX5 158 yX5_mixLinks ∈ nf_tbl := List.mem_filter.mpr ⟨List.mem_of_getElem? (i := 467) (by decide +kernel), by decide +kernel⟩
theorem st_X5_mixLinks : Cond.static yX5_mixLinks ∈ nf_tbl := List.mem_filter.mpr ⟨List.mem_of_getElem? (i := 468) (by decide +kernel), by decide +kernel⟩
theorem cd_X5_mixLinks : Cond.code yX5_mixLinks cX5_mixLinks 6 (some .long) ∈ nf_tbl := List.mem_filter.mpr ⟨List.mem_of_getElem? (i := 469) (by decide +kernel), by decide +kernel⟩
theorem ml_X5_162 : Cond.methodLink RX5 162 yX5_mixArticles ∈ nf_tbl := List.mem_filter.mpr ⟨List.mem_of_getElem? (i := 470) (by decide +kernel), by decide +kernel⟩
theorem st_X5_mixArticles : Cond.static yX5_mixArticles ∈ nf_tbl := List.mem_filter.mpr ⟨List.mem_of_getElem? (i := 471) (by decide +kernel), by decide +kernel⟩
theorem cd_X5_mixArticles : Cond.code yX5_mixArticles cX5_mixArticles 6 (some .long) ∈ nf_tbl := List.mem_filter.mpr ⟨List.mem_of_getElem? (i := 472) (by decide +kernel), by decide +kernel⟩
theorem ml_X5_166 : Cond.methodLink RX5 166 yX5_mixHost ∈ nf_tbl := List.mem_filter.mpr ⟨List.mem_of_getElem? (i := 473) (by decide +kernel), by decide +kernel⟩
theorem st_X5_mixHost : Cond.static yX5_mixHost ∈ nf_tbl := List.mem_filter.mpr ⟨List.mem_of_getElem? (i := 474) (by decide +kernel), by decide +kernel⟩
theorem cd_X5_mixHost : Cond.code yX5_mixHost cX5_mixHost 7 (some .long) ∈ nf_tbl := List.mem_filter.mpr ⟨List.mem_of_getElem? (i := 475) (by decide +kernel), by decide +kernel⟩
theorem ml_L_12 : Cond.methodLink RL 12 yX6_init ∈ nf_tbl := List.mem_filter.mpr ⟨List.mem_of_getElem? (i := 478) (by decide +kernel), by decide +kernel⟩
theorem im_X6_init : Cond.instanceMethod yX6_init ∈ nf_tbl := List.mem_filter.mpr ⟨List.mem_of_getElem? (i := 479) (by decide +kernel), by decide +kernel⟩
theorem cd_X6_init : Cond.code yX6_init cX6_init 2 none ∈ nf_tbl := List.mem_filter.mpr ⟨List.mem_of_getElem? (i := 480) (by decide +kernel), by decide +kernel⟩
theorem lk_X6_7 : Cond.fieldLink RX6 7 "NewsFloodModel" "all" "[I" ∈ nf_tbl := List.mem_filter.mpr ⟨List.mem_of_getElem? (i := 482) (by decide +kernel), by decide +kernel⟩
theorem lk_X6_13 : Cond.fieldLink RX6 13 "NewsFloodModel" "saved" "[I" ∈ nf_tbl := List.mem_filter.mpr ⟨List.mem_of_getElem? (i := 483) (by decide +kernel), by decide +kernel⟩
theorem lk_X6_22 : Cond.fieldLink RX6 22 "NewsFloodModel" "savedMany" "I" ∈ nf_tbl := List.mem_filter.mpr ⟨List.mem_of_getElem? (i := 484) (by decide +kernel), by decide +kernel⟩
theorem lk_X6_16 : Cond.fieldLink RX6 16 "NewsFloodModel" "errors" "[I" ∈ nf_tbl := List.mem_filter.mpr ⟨List.mem_of_getElem? (i := 485) (by decide +kernel), by decide +kernel⟩
theorem lk_X6_19 : Cond.fieldLink RX6 19 "NewsFloodModel" "work" "[I" ∈ nf_tbl := List.mem_filter.mpr ⟨List.mem_of_getElem? (i := 486) (by decide +kernel), by decide +kernel⟩
theorem ml_L_17 : Cond.methodLink RL 17 yX6_addLink ∈ nf_tbl := List.mem_filter.mpr ⟨List.mem_of_getElem? (i := 498) (by decide +kernel), by decide +kernel⟩
theorem im_X6_addLink : Cond.instanceMethod yX6_addLink ∈ nf_tbl := List.mem_filter.mpr ⟨List.mem_of_getElem? (i := 499) (by decide +kernel), by decide +kernel⟩
theorem se_X6_addLink : Cond.selects RX6 yX6_addLink yX6_addLink ∈ nf_tbl := List.mem_filter.mpr ⟨List.mem_of_getElem? (i := 500) (by decide +kernel), by decide +kernel⟩
theorem cd_X6_addLink : Cond.code yX6_addLink cX6_addLink 5 (some .int) ∈ nf_tbl := List.mem_filter.mpr ⟨List.mem_of_getElem? (i := 501) (by decide +kernel), by decide +kernel⟩
theorem ml_X6_38 : Cond.methodLink RX6 38 yX6_isHost ∈ nf_tbl := List.mem_filter.mpr ⟨List.mem_of_getElem? (i := 502) (by decide +kernel), by decide +kernel⟩
theorem st_X6_isHost : Cond.static yX6_isHost ∈ nf_tbl := List.mem_filter.mpr ⟨List.mem_of_getElem? (i := 503) (by decide +kernel), by decide +kernel⟩
theorem cd_X6_isHost : Cond.code yX6_isHost cX6_isHost 1 (some .boolean) ∈ nf_tbl := List.mem_filter.mpr ⟨List.mem_of_getElem? (i := 504) (by decide +kernel), by decide +kernel⟩
theorem kc_X6_26 : Cond.constantLong RX6 26 5 ∈ nf_tbl := List.mem_filter.mpr ⟨List.mem_of_getElem? (i := 505) (by decide +kernel), by decide +kernel⟩
theorem ml_X6_28 : Cond.methodLink RX6 28 yX6_in ∈ nf_tbl := List.mem_filter.mpr ⟨List.mem_of_getElem? (i := 506) (by decide +kernel), by decide +kernel⟩
theorem st_X6_in : Cond.static yX6_in ∈ nf_tbl := List.mem_filter.mpr ⟨List.mem_of_getElem? (i := 507) (by decide +kernel), by decide +kernel⟩
theorem cd_X6_in : Cond.code yX6_in cX6_in 6 (some .boolean) ∈ nf_tbl := List.mem_filter.mpr ⟨List.mem_of_getElem? (i := 508) (by decide +kernel), by decide +kernel⟩
theorem ml_X6_42 : Cond.methodLink RX6 42 yX6_error ∈ nf_tbl := List.mem_filter.mpr ⟨List.mem_of_getElem? (i := 509) (by decide +kernel), by decide +kernel⟩
theorem im_X6_error : Cond.instanceMethod yX6_error ∈ nf_tbl := List.mem_filter.mpr ⟨List.mem_of_getElem? (i := 511) (by decide +kernel), by decide +kernel⟩
theorem cd_X6_error : Cond.code yX6_error cX6_error 2 (some .int) ∈ nf_tbl := List.mem_filter.mpr ⟨List.mem_of_getElem? (i := 512) (by decide +kernel), by decide +kernel⟩
theorem ml_X6_46 : Cond.methodLink RX6 46 yX6_linkOf ∈ nf_tbl := List.mem_filter.mpr ⟨List.mem_of_getElem? (i := 513) (by decide +kernel), by decide +kernel⟩
theorem im_X6_linkOf : Cond.instanceMethod yX6_linkOf ∈ nf_tbl := List.mem_filter.mpr ⟨List.mem_of_getElem? (i := 515) (by decide +kernel), by decide +kernel⟩
theorem cd_X6_linkOf : Cond.code yX6_linkOf cX6_linkOf 4 (some .int) ∈ nf_tbl := List.mem_filter.mpr ⟨List.mem_of_getElem? (i := 516) (by decide +kernel), by decide +kernel⟩
theorem ml_X6_34 : Cond.methodLink RX6 34 yX6_link ∈ nf_tbl := List.mem_filter.mpr ⟨List.mem_of_getElem? (i := 517) (by decide +kernel), by decide +kernel⟩
theorem im_X6_link : Cond.instanceMethod yX6_link ∈ nf_tbl := List.mem_filter.mpr ⟨List.mem_of_getElem? (i := 519) (by decide +kernel), by decide +kernel⟩
theorem cd_X6_link : Cond.code yX6_link cX6_link 3 (some .int) ∈ nf_tbl := List.mem_filter.mpr ⟨List.mem_of_getElem? (i := 520) (by decide +kernel), by decide +kernel⟩
theorem ml_X6_49 : Cond.methodLink RX6 49 yX6_save ∈ nf_tbl := List.mem_filter.mpr ⟨List.mem_of_getElem? (i := 521) (by decide +kernel), by decide +kernel⟩
theorem im_X6_save : Cond.instanceMethod yX6_save ∈ nf_tbl := List.mem_filter.mpr ⟨List.mem_of_getElem? (i := 523) (by decide +kernel), by decide +kernel⟩
theorem cd_X6_save : Cond.code yX6_save cX6_save 2 none ∈ nf_tbl := List.mem_filter.mpr ⟨List.mem_of_getElem? (i := 524) (by decide +kernel), by decide +kernel⟩
theorem ml_L_22 : Cond.methodLink RL 22 yX6_removeLink ∈ nf_tbl := List.mem_filter.mpr ⟨List.mem_of_getElem? (i := 525) (by decide +kernel), by decide +kernel⟩
theorem im_X6_removeLink : Cond.instanceMethod yX6_removeLink ∈ nf_tbl := List.mem_filter.mpr ⟨List.mem_of_getElem? (i := 526) (by decide +kernel), by decide +kernel⟩
theorem se_X6_removeLink : Cond.selects RX6 yX6_removeLink yX6_removeLink ∈ nf_tbl := List.mem_filter.mpr ⟨List.mem_of_getElem? (i := 527) (by decide +kernel), by decide +kernel⟩
theorem cd_X6_removeLink : Cond.code yX6_removeLink cX6_removeLink 3 (some .int) ∈ nf_tbl := List.mem_filter.mpr ⟨List.mem_of_getElem? (i := 528) (by decide +kernel), by decide +kernel⟩
theorem ml_X6_52 : Cond.methodLink RX6 52 yX6_isLink ∈ nf_tbl := List.mem_filter.mpr ⟨List.mem_of_getElem? (i := 529) (by decide +kernel), by decide +kernel⟩
theorem im_X6_isLink : Cond.instanceMethod yX6_isLink ∈ nf_tbl := List.mem_filter.mpr ⟨List.mem_of_getElem? (i := 531) (by decide +kernel), by decide +kernel⟩
theorem cd_X6_isLink : Cond.code yX6_isLink cX6_isLink 2 (some .boolean) ∈ nf_tbl := List.mem_filter.mpr ⟨List.mem_of_getElem? (i := 532) (by decide +kernel), by decide +kernel⟩
theorem ml_L_27 : Cond.methodLink RL 27 yX6_setKind ∈ nf_tbl := List.mem_filter.mpr ⟨List.mem_of_getElem? (i := 533) (by decide +kernel), by decide +kernel⟩
theorem im_X6_setKind : Cond.instanceMethod yX6_setKind ∈ nf_tbl := List.mem_filter.mpr ⟨List.mem_of_getElem? (i := 534) (by decide +kernel), by decide +kernel⟩
theorem se_X6_setKind : Cond.selects RX6 yX6_setKind yX6_setKind ∈ nf_tbl := List.mem_filter.mpr ⟨List.mem_of_getElem? (i := 535) (by decide +kernel), by decide +kernel⟩
theorem cd_X6_setKind : Cond.code yX6_setKind cX6_setKind 4 (some .int) ∈ nf_tbl := List.mem_filter.mpr ⟨List.mem_of_getElem? (i := 536) (by decide +kernel), by decide +kernel⟩
theorem ml_L_31 : Cond.methodLink RL 31 yX6_setGroups ∈ nf_tbl := List.mem_filter.mpr ⟨List.mem_of_getElem? (i := 537) (by decide +kernel), by decide +kernel⟩
theorem im_X6_setGroups : Cond.instanceMethod yX6_setGroups ∈ nf_tbl := List.mem_filter.mpr ⟨List.mem_of_getElem? (i := 538) (by decide +kernel), by decide +kernel⟩
theorem se_X6_setGroups : Cond.selects RX6 yX6_setGroups yX6_setGroups ∈ nf_tbl := List.mem_filter.mpr ⟨List.mem_of_getElem? (i := 539) (by decide +kernel), by decide +kernel⟩
theorem cd_X6_setGroups : Cond.code yX6_setGroups cX6_setGroups 4 (some .int) ∈ nf_tbl := List.mem_filter.mpr ⟨List.mem_of_getElem? (i := 540) (by decide +kernel), by decide +kernel⟩
theorem kc_X6_55 : Cond.constantLong RX6 55 15 ∈ nf_tbl := List.mem_filter.mpr ⟨List.mem_of_getElem? (i := 541) (by decide +kernel), by decide +kernel⟩
theorem ml_L_35 : Cond.methodLink RL 35 yX6_setExpiry ∈ nf_tbl := List.mem_filter.mpr ⟨List.mem_of_getElem? (i := 542) (by decide +kernel), by decide +kernel⟩
theorem im_X6_setExpiry : Cond.instanceMethod yX6_setExpiry ∈ nf_tbl := List.mem_filter.mpr ⟨List.mem_of_getElem? (i := 543) (by decide +kernel), by decide +kernel⟩
theorem se_X6_setExpiry : Cond.selects RX6 yX6_setExpiry yX6_setExpiry ∈ nf_tbl := List.mem_filter.mpr ⟨List.mem_of_getElem? (i := 544) (by decide +kernel), by decide +kernel⟩
theorem cd_X6_setExpiry : Cond.code yX6_setExpiry cX6_setExpiry 4 (some .int) ∈ nf_tbl := List.mem_filter.mpr ⟨List.mem_of_getElem? (i := 545) (by decide +kernel), by decide +kernel⟩
theorem ml_X6_57 : Cond.methodLink RX6 57 yX6_isGroup ∈ nf_tbl := List.mem_filter.mpr ⟨List.mem_of_getElem? (i := 546) (by decide +kernel), by decide +kernel⟩
theorem st_X6_isGroup : Cond.static yX6_isGroup ∈ nf_tbl := List.mem_filter.mpr ⟨List.mem_of_getElem? (i := 547) (by decide +kernel), by decide +kernel⟩
theorem cd_X6_isGroup : Cond.code yX6_isGroup cX6_isGroup 1 (some .boolean) ∈ nf_tbl := List.mem_filter.mpr ⟨List.mem_of_getElem? (i := 548) (by decide +kernel), by decide +kernel⟩
theorem kc_X6_32 : Cond.constantLong RX6 32 3 ∈ nf_tbl := List.mem_filter.mpr ⟨List.mem_of_getElem? (i := 549) (by decide +kernel), by decide +kernel⟩
theorem kc_X6_60 : Cond.constantLong RX6 60 30 ∈ nf_tbl := List.mem_filter.mpr ⟨List.mem_of_getElem? (i := 550) (by decide +kernel), by decide +kernel⟩
theorem ml_L_39 : Cond.methodLink RL 39 yX6_setHistoryLimit ∈ nf_tbl := List.mem_filter.mpr ⟨List.mem_of_getElem? (i := 551) (by decide +kernel), by decide +kernel⟩
theorem im_X6_setHistoryLimit : Cond.instanceMethod yX6_setHistoryLimit ∈ nf_tbl := List.mem_filter.mpr ⟨List.mem_of_getElem? (i := 552) (by decide +kernel), by decide +kernel⟩
theorem se_X6_setHistoryLimit : Cond.selects RX6 yX6_setHistoryLimit yX6_setHistoryLimit ∈ nf_tbl := List.mem_filter.mpr ⟨List.mem_of_getElem? (i := 553) (by decide +kernel), by decide +kernel⟩
theorem cd_X6_setHistoryLimit : Cond.code yX6_setHistoryLimit cX6_setHistoryLimit 3 (some .int) ∈ nf_tbl := List.mem_filter.mpr ⟨List.mem_of_getElem? (i := 554) (by decide +kernel), by decide +kernel⟩
theorem ml_L_43 : Cond.methodLink RL 43 yX6_post ∈ nf_tbl := List.mem_filter.mpr ⟨List.mem_of_getElem? (i := 555) (by decide +kernel), by decide +kernel⟩
theorem im_X6_post : Cond.instanceMethod yX6_post ∈ nf_tbl := List.mem_filter.mpr ⟨List.mem_of_getElem? (i := 556) (by decide +kernel), by decide +kernel⟩
theorem se_X6_post : Cond.selects RX6 yX6_post yX6_post ∈ nf_tbl := List.mem_filter.mpr ⟨List.mem_of_getElem? (i := 557) (by decide +kernel), by decide +kernel⟩
theorem cd_X6_post : Cond.code yX6_post cX6_post 4 (some .int) ∈ nf_tbl := List.mem_filter.mpr ⟨List.mem_of_getElem? (i := 558) (by decide +kernel), by decide +kernel⟩
theorem kc_X6_80 : Cond.constantLong RX6 80 9 ∈ nf_tbl := List.mem_filter.mpr ⟨List.mem_of_getElem? (i := 559) (by decide +kernel), by decide +kernel⟩
theorem ml_X6_82 : Cond.methodLink RX6 82 yX6_posts ∈ nf_tbl := List.mem_filter.mpr ⟨List.mem_of_getElem? (i := 560) (by decide +kernel), by decide +kernel⟩
theorem im_X6_posts : Cond.instanceMethod yX6_posts ∈ nf_tbl := List.mem_filter.mpr ⟨List.mem_of_getElem? (i := 562) (by decide +kernel), by decide +kernel⟩
theorem cd_X6_posts : Cond.code yX6_posts cX6_posts 9 (some .int) ∈ nf_tbl := List.mem_filter.mpr ⟨List.mem_of_getElem? (i := 563) (by decide +kernel), by decide +kernel⟩
theorem ml_X6_76 : Cond.methodLink RX6 76 yX6_arrives ∈ nf_tbl := List.mem_filter.mpr ⟨List.mem_of_getElem? (i := 564) (by decide +kernel), by decide +kernel⟩
theorem im_X6_arrives : Cond.instanceMethod yX6_arrives ∈ nf_tbl := List.mem_filter.mpr ⟨List.mem_of_getElem? (i := 566) (by decide +kernel), by decide +kernel⟩
theorem cd_X6_arrives : Cond.code yX6_arrives cX6_arrives 8 (some .int) ∈ nf_tbl := List.mem_filter.mpr ⟨List.mem_of_getElem? (i := 567) (by decide +kernel), by decide +kernel⟩
theorem ml_X6_69 : Cond.methodLink RX6 69 yX6_known ∈ nf_tbl := List.mem_filter.mpr ⟨List.mem_of_getElem? (i := 568) (by decide +kernel), by decide +kernel⟩
theorem im_X6_known : Cond.instanceMethod yX6_known ∈ nf_tbl := List.mem_filter.mpr ⟨List.mem_of_getElem? (i := 570) (by decide +kernel), by decide +kernel⟩
theorem cd_X6_known : Cond.code yX6_known cX6_known 3 (some .int) ∈ nf_tbl := List.mem_filter.mpr ⟨List.mem_of_getElem? (i := 571) (by decide +kernel), by decide +kernel⟩
theorem ml_X6_62 : Cond.methodLink RX6 62 yX6_of ∈ nf_tbl := List.mem_filter.mpr ⟨List.mem_of_getElem? (i := 572) (by decide +kernel), by decide +kernel⟩
theorem im_X6_of : Cond.instanceMethod yX6_of ∈ nf_tbl := List.mem_filter.mpr ⟨List.mem_of_getElem? (i := 574) (by decide +kernel), by decide +kernel⟩
theorem cd_X6_of : Cond.code yX6_of cX6_of 3 (some .int) ∈ nf_tbl := List.mem_filter.mpr ⟨List.mem_of_getElem? (i := 575) (by decide +kernel), by decide +kernel⟩
theorem ml_X6_72 : Cond.methodLink RX6 72 yX6_acts ∈ nf_tbl := List.mem_filter.mpr ⟨List.mem_of_getElem? (i := 576) (by decide +kernel), by decide +kernel⟩
theorem im_X6_acts : Cond.instanceMethod yX6_acts ∈ nf_tbl := List.mem_filter.mpr ⟨List.mem_of_getElem? (i := 578) (by decide +kernel), by decide +kernel⟩
theorem cd_X6_acts : Cond.code yX6_acts cX6_acts 6 none ∈ nf_tbl := List.mem_filter.mpr ⟨List.mem_of_getElem? (i := 579) (by decide +kernel), by decide +kernel⟩
theorem ml_X6_65 : Cond.methodLink RX6 65 yX6_isIn ∈ nf_tbl := List.mem_filter.mpr ⟨List.mem_of_getElem? (i := 580) (by decide +kernel), by decide +kernel⟩
theorem im_X6_isIn : Cond.instanceMethod yX6_isIn ∈ nf_tbl := List.mem_filter.mpr ⟨List.mem_of_getElem? (i := 582) (by decide +kernel), by decide +kernel⟩
theorem cd_X6_isIn : Cond.code yX6_isIn cX6_isIn 3 (some .boolean) ∈ nf_tbl := List.mem_filter.mpr ⟨List.mem_of_getElem? (i := 583) (by decide +kernel), by decide +kernel⟩
theorem ml_L_48 : Cond.methodLink RL 48 yX6_postAction ∈ nf_tbl := List.mem_filter.mpr ⟨List.mem_of_getElem? (i := 584) (by decide +kernel), by decide +kernel⟩
theorem im_X6_postAction : Cond.instanceMethod yX6_postAction ∈ nf_tbl := List.mem_filter.mpr ⟨List.mem_of_getElem? (i := 585) (by decide +kernel), by decide +kernel⟩
theorem se_X6_postAction : Cond.selects RX6 yX6_postAction yX6_postAction ∈ nf_tbl := List.mem_filter.mpr ⟨List.mem_of_getElem? (i := 586) (by decide +kernel), by decide +kernel⟩
theorem cd_X6_postAction : Cond.code yX6_postAction cX6_postAction 5 (some .int) ∈ nf_tbl := List.mem_filter.mpr ⟨List.mem_of_getElem? (i := 587) (by decide +kernel), by decide +kernel⟩
theorem kc_X6_86 : Cond.constantLong RX6 86 2 ∈ nf_tbl := List.mem_filter.mpr ⟨List.mem_of_getElem? (i := 588) (by decide +kernel), by decide +kernel⟩
theorem ml_X6_88 : Cond.methodLink RX6 88 yX6_isArticle ∈ nf_tbl := List.mem_filter.mpr ⟨List.mem_of_getElem? (i := 589) (by decide +kernel), by decide +kernel⟩
theorem im_X6_isArticle : Cond.instanceMethod yX6_isArticle ∈ nf_tbl := List.mem_filter.mpr ⟨List.mem_of_getElem? (i := 591) (by decide +kernel), by decide +kernel⟩
theorem cd_X6_isArticle : Cond.code yX6_isArticle cX6_isArticle 2 (some .boolean) ∈ nf_tbl := List.mem_filter.mpr ⟨List.mem_of_getElem? (i := 592) (by decide +kernel), by decide +kernel⟩
theorem ml_L_53 : Cond.methodLink RL 53 yX6_round ∈ nf_tbl := List.mem_filter.mpr ⟨List.mem_of_getElem? (i := 593) (by decide +kernel), by decide +kernel⟩
theorem im_X6_round : Cond.instanceMethod yX6_round ∈ nf_tbl := List.mem_filter.mpr ⟨List.mem_of_getElem? (i := 594) (by decide +kernel), by decide +kernel⟩
theorem se_X6_round : Cond.selects RX6 yX6_round yX6_round ∈ nf_tbl := List.mem_filter.mpr ⟨List.mem_of_getElem? (i := 595) (by decide +kernel), by decide +kernel⟩
theorem cd_X6_round : Cond.code yX6_round cX6_round 1 (some .int) ∈ nf_tbl := List.mem_filter.mpr ⟨List.mem_of_getElem? (i := 596) (by decide +kernel), by decide +kernel⟩
theorem ml_X6_95 : Cond.methodLink RX6 95 yX6_goesRound ∈ nf_tbl := List.mem_filter.mpr ⟨List.mem_of_getElem? (i := 597) (by decide +kernel), by decide +kernel⟩
theorem im_X6_goesRound : Cond.instanceMethod yX6_goesRound ∈ nf_tbl := List.mem_filter.mpr ⟨List.mem_of_getElem? (i := 599) (by decide +kernel), by decide +kernel⟩
theorem cd_X6_goesRound : Cond.code yX6_goesRound cX6_goesRound 8 (some .int) ∈ nf_tbl := List.mem_filter.mpr ⟨List.mem_of_getElem? (i := 600) (by decide +kernel), by decide +kernel⟩
theorem ml_X6_91 : Cond.methodLink RX6 91 yX6_takes ∈ nf_tbl := List.mem_filter.mpr ⟨List.mem_of_getElem? (i := 601) (by decide +kernel), by decide +kernel⟩
theorem im_X6_takes : Cond.instanceMethod yX6_takes ∈ nf_tbl := List.mem_filter.mpr ⟨List.mem_of_getElem? (i := 603) (by decide +kernel), by decide +kernel⟩
theorem cd_X6_takes : Cond.code yX6_takes cX6_takes 5 (some .int) ∈ nf_tbl := List.mem_filter.mpr ⟨List.mem_of_getElem? (i := 604) (by decide +kernel), by decide +kernel⟩
theorem ml_L_57 : Cond.methodLink RL 57 yX6_settle ∈ nf_tbl := List.mem_filter.mpr ⟨List.mem_of_getElem? (i := 605) (by decide +kernel), by decide +kernel⟩
theorem im_X6_settle : Cond.instanceMethod yX6_settle ∈ nf_tbl := List.mem_filter.mpr ⟨List.mem_of_getElem? (i := 606) (by decide +kernel), by decide +kernel⟩
theorem se_X6_settle : Cond.selects RX6 yX6_settle yX6_settle ∈ nf_tbl := List.mem_filter.mpr ⟨List.mem_of_getElem? (i := 607) (by decide +kernel), by decide +kernel⟩
theorem cd_X6_settle : Cond.code yX6_settle cX6_settle 3 (some .int) ∈ nf_tbl := List.mem_filter.mpr ⟨List.mem_of_getElem? (i := 608) (by decide +kernel), by decide +kernel⟩
theorem ml_L_61 : Cond.methodLink RL 61 yX6_nextDay ∈ nf_tbl := List.mem_filter.mpr ⟨List.mem_of_getElem? (i := 609) (by decide +kernel), by decide +kernel⟩
theorem im_X6_nextDay : Cond.instanceMethod yX6_nextDay ∈ nf_tbl := List.mem_filter.mpr ⟨List.mem_of_getElem? (i := 610) (by decide +kernel), by decide +kernel⟩
theorem se_X6_nextDay : Cond.selects RX6 yX6_nextDay yX6_nextDay ∈ nf_tbl := List.mem_filter.mpr ⟨List.mem_of_getElem? (i := 611) (by decide +kernel), by decide +kernel⟩
theorem cd_X6_nextDay : Cond.code yX6_nextDay cX6_nextDay 5 (some .int) ∈ nf_tbl := List.mem_filter.mpr ⟨List.mem_of_getElem? (i := 612) (by decide +kernel), by decide +kernel⟩
theorem ml_L_65 : Cond.methodLink RL 65 yX6_isStored ∈ nf_tbl := List.mem_filter.mpr ⟨List.mem_of_getElem? (i := 613) (by decide +kernel), by decide +kernel⟩
theorem im_X6_isStored : Cond.instanceMethod yX6_isStored ∈ nf_tbl := List.mem_filter.mpr ⟨List.mem_of_getElem? (i := 614) (by decide +kernel), by decide +kernel⟩
theorem se_X6_isStored : Cond.selects RX6 yX6_isStored yX6_isStored ∈ nf_tbl := List.mem_filter.mpr ⟨List.mem_of_getElem? (i := 615) (by decide +kernel), by decide +kernel⟩
theorem cd_X6_isStored : Cond.code yX6_isStored cX6_isStored 3 (some .int) ∈ nf_tbl := List.mem_filter.mpr ⟨List.mem_of_getElem? (i := 616) (by decide +kernel), by decide +kernel⟩
theorem ml_L_69 : Cond.methodLink RL 69 yX6_knownSince ∈ nf_tbl := List.mem_filter.mpr ⟨List.mem_of_getElem? (i := 617) (by decide +kernel), by decide +kernel⟩
theorem im_X6_knownSince : Cond.instanceMethod yX6_knownSince ∈ nf_tbl := List.mem_filter.mpr ⟨List.mem_of_getElem? (i := 618) (by decide +kernel), by decide +kernel⟩
theorem se_X6_knownSince : Cond.selects RX6 yX6_knownSince yX6_knownSince ∈ nf_tbl := List.mem_filter.mpr ⟨List.mem_of_getElem? (i := 619) (by decide +kernel), by decide +kernel⟩
theorem cd_X6_knownSince : Cond.code yX6_knownSince cX6_knownSince 3 (some .int) ∈ nf_tbl := List.mem_filter.mpr ⟨List.mem_of_getElem? (i := 620) (by decide +kernel), by decide +kernel⟩
theorem ml_L_73 : Cond.methodLink RL 73 yX6_pendingCancels ∈ nf_tbl := List.mem_filter.mpr ⟨List.mem_of_getElem? (i := 621) (by decide +kernel), by decide +kernel⟩
theorem im_X6_pendingCancels : Cond.instanceMethod yX6_pendingCancels ∈ nf_tbl := List.mem_filter.mpr ⟨List.mem_of_getElem? (i := 622) (by decide +kernel), by decide +kernel⟩
theorem se_X6_pendingCancels : Cond.selects RX6 yX6_pendingCancels yX6_pendingCancels ∈ nf_tbl := List.mem_filter.mpr ⟨List.mem_of_getElem? (i := 623) (by decide +kernel), by decide +kernel⟩
theorem cd_X6_pendingCancels : Cond.code yX6_pendingCancels cX6_pendingCancels 2 (some .int) ∈ nf_tbl := List.mem_filter.mpr ⟨List.mem_of_getElem? (i := 624) (by decide +kernel), by decide +kernel⟩
theorem ml_X6_98 : Cond.methodLink RX6 98 yX6_pendingOf ∈ nf_tbl := List.mem_filter.mpr ⟨List.mem_of_getElem? (i := 625) (by decide +kernel), by decide +kernel⟩
theorem im_X6_pendingOf : Cond.instanceMethod yX6_pendingOf ∈ nf_tbl := List.mem_filter.mpr ⟨List.mem_of_getElem? (i := 627) (by decide +kernel), by decide +kernel⟩
theorem cd_X6_pendingOf : Cond.code yX6_pendingOf cX6_pendingOf 5 (some .int) ∈ nf_tbl := List.mem_filter.mpr ⟨List.mem_of_getElem? (i := 628) (by decide +kernel), by decide +kernel⟩
theorem ml_L_77 : Cond.methodLink RL 77 yX6_holders ∈ nf_tbl := List.mem_filter.mpr ⟨List.mem_of_getElem? (i := 629) (by decide +kernel), by decide +kernel⟩
theorem im_X6_holders : Cond.instanceMethod yX6_holders ∈ nf_tbl := List.mem_filter.mpr ⟨List.mem_of_getElem? (i := 630) (by decide +kernel), by decide +kernel⟩
theorem se_X6_holders : Cond.selects RX6 yX6_holders yX6_holders ∈ nf_tbl := List.mem_filter.mpr ⟨List.mem_of_getElem? (i := 631) (by decide +kernel), by decide +kernel⟩
theorem cd_X6_holders : Cond.code yX6_holders cX6_holders 4 (some .int) ∈ nf_tbl := List.mem_filter.mpr ⟨List.mem_of_getElem? (i := 632) (by decide +kernel), by decide +kernel⟩
theorem ml_L_81 : Cond.methodLink RL 81 yX6_storedInGroup ∈ nf_tbl := List.mem_filter.mpr ⟨List.mem_of_getElem? (i := 633) (by decide +kernel), by decide +kernel⟩
theorem im_X6_storedInGroup : Cond.instanceMethod yX6_storedInGroup ∈ nf_tbl := List.mem_filter.mpr ⟨List.mem_of_getElem? (i := 634) (by decide +kernel), by decide +kernel⟩
theorem se_X6_storedInGroup : Cond.selects RX6 yX6_storedInGroup yX6_storedInGroup ∈ nf_tbl := List.mem_filter.mpr ⟨List.mem_of_getElem? (i := 635) (by decide +kernel), by decide +kernel⟩
theorem cd_X6_storedInGroup : Cond.code yX6_storedInGroup cX6_storedInGroup 5 (some .int) ∈ nf_tbl := List.mem_filter.mpr ⟨List.mem_of_getElem? (i := 636) (by decide +kernel), by decide +kernel⟩
theorem ml_L_85 : Cond.methodLink RL 85 yX6_distance ∈ nf_tbl := List.mem_filter.mpr ⟨List.mem_of_getElem? (i := 637) (by decide +kernel), by decide +kernel⟩
theorem im_X6_distance : Cond.instanceMethod yX6_distance ∈ nf_tbl := List.mem_filter.mpr ⟨List.mem_of_getElem? (i := 638) (by decide +kernel), by decide +kernel⟩
theorem se_X6_distance : Cond.selects RX6 yX6_distance yX6_distance ∈ nf_tbl := List.mem_filter.mpr ⟨List.mem_of_getElem? (i := 639) (by decide +kernel), by decide +kernel⟩
theorem cd_X6_distance : Cond.code yX6_distance cX6_distance 8 (some .int) ∈ nf_tbl := List.mem_filter.mpr ⟨List.mem_of_getElem? (i := 640) (by decide +kernel), by decide +kernel⟩
theorem ml_L_89 : Cond.methodLink RL 89 yX6_waiting ∈ nf_tbl := List.mem_filter.mpr ⟨List.mem_of_getElem? (i := 641) (by decide +kernel), by decide +kernel⟩
theorem im_X6_waiting : Cond.instanceMethod yX6_waiting ∈ nf_tbl := List.mem_filter.mpr ⟨List.mem_of_getElem? (i := 642) (by decide +kernel), by decide +kernel⟩
theorem se_X6_waiting : Cond.selects RX6 yX6_waiting yX6_waiting ∈ nf_tbl := List.mem_filter.mpr ⟨List.mem_of_getElem? (i := 643) (by decide +kernel), by decide +kernel⟩
theorem cd_X6_waiting : Cond.code yX6_waiting cX6_waiting 1 (some .int) ∈ nf_tbl := List.mem_filter.mpr ⟨List.mem_of_getElem? (i := 644) (by decide +kernel), by decide +kernel⟩
theorem ml_L_93 : Cond.methodLink RL 93 yX6_total ∈ nf_tbl := List.mem_filter.mpr ⟨List.mem_of_getElem? (i := 645) (by decide +kernel), by decide +kernel⟩
theorem im_X6_total : Cond.instanceMethod yX6_total ∈ nf_tbl := List.mem_filter.mpr ⟨List.mem_of_getElem? (i := 646) (by decide +kernel), by decide +kernel⟩
theorem se_X6_total : Cond.selects RX6 yX6_total yX6_total ∈ nf_tbl := List.mem_filter.mpr ⟨List.mem_of_getElem? (i := 647) (by decide +kernel), by decide +kernel⟩
theorem cd_X6_total : Cond.code yX6_total cX6_total 2 (some .int) ∈ nf_tbl := List.mem_filter.mpr ⟨List.mem_of_getElem? (i := 648) (by decide +kernel), by decide +kernel⟩
theorem ml_L_97 : Cond.methodLink RL 97 yX6_day ∈ nf_tbl := List.mem_filter.mpr ⟨List.mem_of_getElem? (i := 649) (by decide +kernel), by decide +kernel⟩
theorem im_X6_day : Cond.instanceMethod yX6_day ∈ nf_tbl := List.mem_filter.mpr ⟨List.mem_of_getElem? (i := 650) (by decide +kernel), by decide +kernel⟩
theorem se_X6_day : Cond.selects RX6 yX6_day yX6_day ∈ nf_tbl := List.mem_filter.mpr ⟨List.mem_of_getElem? (i := 651) (by decide +kernel), by decide +kernel⟩
theorem cd_X6_day : Cond.code yX6_day cX6_day 1 (some .int) ∈ nf_tbl := List.mem_filter.mpr ⟨List.mem_of_getElem? (i := 652) (by decide +kernel), by decide +kernel⟩
theorem ml_L_101 : Cond.methodLink RL 101 yX6_undo ∈ nf_tbl := List.mem_filter.mpr ⟨List.mem_of_getElem? (i := 653) (by decide +kernel), by decide +kernel⟩
theorem im_X6_undo : Cond.instanceMethod yX6_undo ∈ nf_tbl := List.mem_filter.mpr ⟨List.mem_of_getElem? (i := 654) (by decide +kernel), by decide +kernel⟩
theorem se_X6_undo : Cond.selects RX6 yX6_undo yX6_undo ∈ nf_tbl := List.mem_filter.mpr ⟨List.mem_of_getElem? (i := 655) (by decide +kernel), by decide +kernel⟩
theorem cd_X6_undo : Cond.code yX6_undo cX6_undo 2 (some .int) ∈ nf_tbl := List.mem_filter.mpr ⟨List.mem_of_getElem? (i := 656) (by decide +kernel), by decide +kernel⟩
theorem ml_L_105 : Cond.methodLink RL 105 yX6_errorCount ∈ nf_tbl := List.mem_filter.mpr ⟨List.mem_of_getElem? (i := 657) (by decide +kernel), by decide +kernel⟩
theorem im_X6_errorCount : Cond.instanceMethod yX6_errorCount ∈ nf_tbl := List.mem_filter.mpr ⟨List.mem_of_getElem? (i := 658) (by decide +kernel), by decide +kernel⟩
theorem se_X6_errorCount : Cond.selects RX6 yX6_errorCount yX6_errorCount ∈ nf_tbl := List.mem_filter.mpr ⟨List.mem_of_getElem? (i := 659) (by decide +kernel), by decide +kernel⟩
theorem cd_X6_errorCount : Cond.code yX6_errorCount cX6_errorCount 2 (some .int) ∈ nf_tbl := List.mem_filter.mpr ⟨List.mem_of_getElem? (i := 660) (by decide +kernel), by decide +kernel⟩
theorem kc_X6_101 : Cond.constantLong RX6 101 (-5) ∈ nf_tbl := List.mem_filter.mpr ⟨List.mem_of_getElem? (i := 661) (by decide +kernel), by decide +kernel⟩
theorem kc_X6_103 : Cond.constantLong RX6 103 (-2) ∈ nf_tbl := List.mem_filter.mpr ⟨List.mem_of_getElem? (i := 662) (by decide +kernel), by decide +kernel⟩
theorem ml_L_110 : Cond.methodLink RL 110 yX6_digest ∈ nf_tbl := List.mem_filter.mpr ⟨List.mem_of_getElem? (i := 663) (by decide +kernel), by decide +kernel⟩
theorem im_X6_digest : Cond.instanceMethod yX6_digest ∈ nf_tbl := List.mem_filter.mpr ⟨List.mem_of_getElem? (i := 664) (by decide +kernel), by decide +kernel⟩
theorem se_X6_digest : Cond.selects RX6 yX6_digest yX6_digest ∈ nf_tbl := List.mem_filter.mpr ⟨List.mem_of_getElem? (i := 665) (by decide +kernel), by decide +kernel⟩
theorem cd_X6_digest : Cond.code yX6_digest cX6_digest 5 (some .long) ∈ nf_tbl := List.mem_filter.mpr ⟨List.mem_of_getElem? (i := 666) (by decide +kernel), by decide +kernel⟩
theorem kc_X6_105 : Cond.constantLong RX6 105 2659 ∈ nf_tbl := List.mem_filter.mpr ⟨List.mem_of_getElem? (i := 667) (by decide +kernel), by decide +kernel⟩
theorem kc_X6_107 : Cond.constantLong RX6 107 31 ∈ nf_tbl := List.mem_filter.mpr ⟨List.mem_of_getElem? (i := 668) (by decide +kernel), by decide +kernel⟩
theorem nm_X5_init : nf_nm yX5_init 0 := ⟨⟨by decide +kernel, by decide +kernel⟩, by decide +kernel⟩
theorem nm_X3_init : nf_nm yX3_init 0 := ⟨⟨by decide +kernel, by decide +kernel⟩, by decide +kernel⟩
theorem nm_X2_init : nf_nm yX2_init 0 := ⟨⟨by decide +kernel, by decide +kernel⟩, by decide +kernel⟩
theorem nm_X0_init : nf_nm yX0_init 0 := ⟨⟨by decide +kernel, by decide +kernel⟩, by decide +kernel⟩
theorem nm_X4_init : nf_nm yX4_init 0 := ⟨⟨by decide +kernel, by decide +kernel⟩, by decide +kernel⟩
theorem nm_J7_fill_53178 : nf_nm yJ7_fill_53178 2 := ⟨⟨by decide +kernel, by decide +kernel⟩, by decide +kernel⟩
theorem nm_X1_init : nf_nm yX1_init 0 := ⟨⟨by decide +kernel, by decide +kernel⟩, by decide +kernel⟩
theorem nm_X5_addLink : nf_nm yX5_addLink 3 := ⟨⟨by decide +kernel, by decide +kernel⟩, by decide +kernel⟩
theorem nm_X5_isBelow : nf_nm yX5_isBelow 2 := ⟨⟨by decide +kernel, by decide +kernel⟩, by decide +kernel⟩
theorem nm_X5_fail : nf_nm yX5_fail 1 := ⟨⟨by decide +kernel, by decide +kernel⟩, by decide +kernel⟩
theorem nm_X5_errorSlot : nf_nm yX5_errorSlot 1 := ⟨⟨by decide +kernel, by decide +kernel⟩, by decide +kernel⟩
theorem nm_X2_between : nf_nm yX2_between 2 := ⟨⟨by decide +kernel, by decide +kernel⟩, by decide +kernel⟩
theorem nm_X5_save : nf_nm yX5_save 0 := ⟨⟨by decide +kernel, by decide +kernel⟩, by decide +kernel⟩
theorem nm_X3_copyFrom : nf_nm yX3_copyFrom 1 := ⟨⟨by decide +kernel, by decide +kernel⟩, by decide +kernel⟩
theorem nm_X2_copyFrom : nf_nm yX2_copyFrom 1 := ⟨⟨by decide +kernel, by decide +kernel⟩, by decide +kernel⟩
theorem nm_X0_copyFrom : nf_nm yX0_copyFrom 1 := ⟨⟨by decide +kernel, by decide +kernel⟩, by decide +kernel⟩
theorem nm_X1_copyFrom : nf_nm yX1_copyFrom 1 := ⟨⟨by decide +kernel, by decide +kernel⟩, by decide +kernel⟩
theorem nm_X4_copyFrom : nf_nm yX4_copyFrom 1 := ⟨⟨by decide +kernel, by decide +kernel⟩, by decide +kernel⟩
theorem nm_X2_append : nf_nm yX2_append 3 := ⟨⟨by decide +kernel, by decide +kernel⟩, by decide +kernel⟩
theorem nm_X5_removeLink : nf_nm yX5_removeLink 1 := ⟨⟨by decide +kernel, by decide +kernel⟩, by decide +kernel⟩
theorem nm_X2_delete : nf_nm yX2_delete 1 := ⟨⟨by decide +kernel, by decide +kernel⟩, by decide +kernel⟩
theorem nm_X5_setKind : nf_nm yX5_setKind 2 := ⟨⟨by decide +kernel, by decide +kernel⟩, by decide +kernel⟩
theorem nm_X5_setGroups : nf_nm yX5_setGroups 2 := ⟨⟨by decide +kernel, by decide +kernel⟩, by decide +kernel⟩
theorem nm_X5_setExpiry : nf_nm yX5_setExpiry 2 := ⟨⟨by decide +kernel, by decide +kernel⟩, by decide +kernel⟩
theorem nm_X5_isLimit : nf_nm yX5_isLimit 1 := ⟨⟨by decide +kernel, by decide +kernel⟩, by decide +kernel⟩
theorem nm_X5_setHistoryLimit : nf_nm yX5_setHistoryLimit 1 := ⟨⟨by decide +kernel, by decide +kernel⟩, by decide +kernel⟩
theorem nm_X5_post : nf_nm yX5_post 3 := ⟨⟨by decide +kernel, by decide +kernel⟩, by decide +kernel⟩
theorem nm_X5_publish : nf_nm yX5_publish 5 := ⟨⟨by decide +kernel, by decide +kernel⟩, by decide +kernel⟩
theorem nm_X0_append : nf_nm yX0_append 5 := ⟨⟨by decide +kernel, by decide +kernel⟩, by decide +kernel⟩
theorem nm_X3_arrive : nf_nm yX3_arrive 3 := ⟨⟨by decide +kernel, by decide +kernel⟩, by decide +kernel⟩
theorem nm_X1_knows : nf_nm yX1_knows 1 := ⟨⟨by decide +kernel, by decide +kernel⟩, by decide +kernel⟩
theorem nm_X1_takeCancel : nf_nm yX1_takeCancel 2 := ⟨⟨by decide +kernel, by decide +kernel⟩, by decide +kernel⟩
theorem nm_X5_has : nf_nm yX5_has 2 := ⟨⟨by decide +kernel, by decide +kernel⟩, by decide +kernel⟩
theorem nm_X1_carries : nf_nm yX1_carries 1 := ⟨⟨by decide +kernel, by decide +kernel⟩, by decide +kernel⟩
theorem nm_X1_keep : nf_nm yX1_keep 1 := ⟨⟨by decide +kernel, by decide +kernel⟩, by decide +kernel⟩
theorem nm_X3_actOnTarget : nf_nm yX3_actOnTarget 2 := ⟨⟨by decide +kernel, by decide +kernel⟩, by decide +kernel⟩
theorem nm_X1_stores : nf_nm yX1_stores 1 := ⟨⟨by decide +kernel, by decide +kernel⟩, by decide +kernel⟩
theorem nm_X1_drop : nf_nm yX1_drop 1 := ⟨⟨by decide +kernel, by decide +kernel⟩, by decide +kernel⟩
theorem nm_X1_addCancel : nf_nm yX1_addCancel 2 := ⟨⟨by decide +kernel, by decide +kernel⟩, by decide +kernel⟩
theorem nm_X2_neighboursOf : nf_nm yX2_neighboursOf 1 := ⟨⟨by decide +kernel, by decide +kernel⟩, by decide +kernel⟩
theorem nm_X4_put : nf_nm yX4_put 4 := ⟨⟨by decide +kernel, by decide +kernel⟩, by decide +kernel⟩
theorem nm_X4_slot : nf_nm yX4_slot 2 := ⟨⟨by decide +kernel, by decide +kernel⟩, by decide +kernel⟩
theorem nm_X5_postAction : nf_nm yX5_postAction 4 := ⟨⟨by decide +kernel, by decide +kernel⟩, by decide +kernel⟩
theorem nm_X5_isArticle : nf_nm yX5_isArticle 1 := ⟨⟨by decide +kernel, by decide +kernel⟩, by decide +kernel⟩
theorem nm_X5_round : nf_nm yX5_round 0 := ⟨⟨by decide +kernel, by decide +kernel⟩, by decide +kernel⟩
theorem nm_X3_performRound : nf_nm yX3_performRound 1 := ⟨⟨by decide +kernel, by decide +kernel⟩, by decide +kernel⟩
theorem nm_X4_makeEmpty : nf_nm yX4_makeEmpty 0 := ⟨⟨by decide +kernel, by decide +kernel⟩, by decide +kernel⟩
theorem nm_X3_sendTo : nf_nm yX3_sendTo 4 := ⟨⟨by decide +kernel, by decide +kernel⟩, by decide +kernel⟩
theorem nm_X5_settle : nf_nm yX5_settle 0 := ⟨⟨by decide +kernel, by decide +kernel⟩, by decide +kernel⟩
theorem nm_X4_size : nf_nm yX4_size 0 := ⟨⟨by decide +kernel, by decide +kernel⟩, by decide +kernel⟩
theorem nm_J6_bitCount_0f7a4 : nf_nm yJ6_bitCount_0f7a4 1 := ⟨⟨by decide +kernel, by decide +kernel⟩, by decide +kernel⟩
theorem nm_X5_nextDay : nf_nm yX5_nextDay 0 := ⟨⟨by decide +kernel, by decide +kernel⟩, by decide +kernel⟩
theorem nm_X3_beginDay : nf_nm yX3_beginDay 0 := ⟨⟨by decide +kernel, by decide +kernel⟩, by decide +kernel⟩
theorem nm_X3_expireStore : nf_nm yX3_expireStore 1 := ⟨⟨by decide +kernel, by decide +kernel⟩, by decide +kernel⟩
theorem nm_X3_forgetOld : nf_nm yX3_forgetOld 1 := ⟨⟨by decide +kernel, by decide +kernel⟩, by decide +kernel⟩
theorem nm_X5_isStored : nf_nm yX5_isStored 2 := ⟨⟨by decide +kernel, by decide +kernel⟩, by decide +kernel⟩
theorem nm_X5_knownSince : nf_nm yX5_knownSince 2 := ⟨⟨by decide +kernel, by decide +kernel⟩, by decide +kernel⟩
theorem nm_X5_pendingCancels : nf_nm yX5_pendingCancels 1 := ⟨⟨by decide +kernel, by decide +kernel⟩, by decide +kernel⟩
theorem nm_X1_countCancels : nf_nm yX1_countCancels 0 := ⟨⟨by decide +kernel, by decide +kernel⟩, by decide +kernel⟩
theorem nm_X5_holders : nf_nm yX5_holders 1 := ⟨⟨by decide +kernel, by decide +kernel⟩, by decide +kernel⟩
theorem nm_X5_storedInGroup : nf_nm yX5_storedInGroup 2 := ⟨⟨by decide +kernel, by decide +kernel⟩, by decide +kernel⟩
theorem nm_X5_distance : nf_nm yX5_distance 2 := ⟨⟨by decide +kernel, by decide +kernel⟩, by decide +kernel⟩
theorem nm_X5_waiting : nf_nm yX5_waiting 0 := ⟨⟨by decide +kernel, by decide +kernel⟩, by decide +kernel⟩
theorem nm_X5_total : nf_nm yX5_total 1 := ⟨⟨by decide +kernel, by decide +kernel⟩, by decide +kernel⟩
theorem nm_X5_day : nf_nm yX5_day 0 := ⟨⟨by decide +kernel, by decide +kernel⟩, by decide +kernel⟩
theorem nm_X5_undo : nf_nm yX5_undo 0 := ⟨⟨by decide +kernel, by decide +kernel⟩, by decide +kernel⟩
theorem nm_X5_errorCount : nf_nm yX5_errorCount 1 := ⟨⟨by decide +kernel, by decide +kernel⟩, by decide +kernel⟩
theorem nm_X5_digest : nf_nm yX5_digest 0 := ⟨⟨by decide +kernel, by decide +kernel⟩, by decide +kernel⟩
theorem nm_X5_mixAll : nf_nm yX5_mixAll 2 := ⟨⟨by decide +kernel, by decide +kernel⟩, by decide +kernel⟩
theorem nm_X5_mix : nf_nm yX5_mix 2 := ⟨⟨by decide +kernel, by decide +kernel⟩, by decide +kernel⟩
theorem nm_X5_mixLinks : nf_nm yX5_mixLinks 2 := ⟨⟨by decide +kernel, by decide +kernel⟩, by decide +kernel⟩
theorem nm_X5_mixArticles : nf_nm yX5_mixArticles 2 := ⟨⟨by decide +kernel, by decide +kernel⟩, by decide +kernel⟩
theorem nm_X5_mixHost : nf_nm yX5_mixHost 3 := ⟨⟨by decide +kernel, by decide +kernel⟩, by decide +kernel⟩
theorem nm_X6_init : nf_nm yX6_init 0 := ⟨⟨by decide +kernel, by decide +kernel⟩, by decide +kernel⟩
theorem nm_X6_addLink : nf_nm yX6_addLink 3 := ⟨⟨by decide +kernel, by decide +kernel⟩, by decide +kernel⟩
theorem nm_X6_isHost : nf_nm yX6_isHost 1 := ⟨⟨by decide +kernel, by decide +kernel⟩, by decide +kernel⟩
theorem nm_X6_in : nf_nm yX6_in 3 := ⟨⟨by decide +kernel, by decide +kernel⟩, by decide +kernel⟩
theorem nm_X6_error : nf_nm yX6_error 1 := ⟨⟨by decide +kernel, by decide +kernel⟩, by decide +kernel⟩
theorem nm_X6_linkOf : nf_nm yX6_linkOf 2 := ⟨⟨by decide +kernel, by decide +kernel⟩, by decide +kernel⟩
theorem nm_X6_link : nf_nm yX6_link 2 := ⟨⟨by decide +kernel, by decide +kernel⟩, by decide +kernel⟩
theorem nm_X6_save : nf_nm yX6_save 0 := ⟨⟨by decide +kernel, by decide +kernel⟩, by decide +kernel⟩
theorem nm_X6_removeLink : nf_nm yX6_removeLink 1 := ⟨⟨by decide +kernel, by decide +kernel⟩, by decide +kernel⟩
theorem nm_X6_isLink : nf_nm yX6_isLink 1 := ⟨⟨by decide +kernel, by decide +kernel⟩, by decide +kernel⟩
theorem nm_X6_setKind : nf_nm yX6_setKind 2 := ⟨⟨by decide +kernel, by decide +kernel⟩, by decide +kernel⟩
theorem nm_X6_setGroups : nf_nm yX6_setGroups 2 := ⟨⟨by decide +kernel, by decide +kernel⟩, by decide +kernel⟩
theorem nm_X6_setExpiry : nf_nm yX6_setExpiry 2 := ⟨⟨by decide +kernel, by decide +kernel⟩, by decide +kernel⟩
theorem nm_X6_isGroup : nf_nm yX6_isGroup 1 := ⟨⟨by decide +kernel, by decide +kernel⟩, by decide +kernel⟩
theorem nm_X6_setHistoryLimit : nf_nm yX6_setHistoryLimit 1 := ⟨⟨by decide +kernel, by decide +kernel⟩, by decide +kernel⟩
theorem nm_X6_post : nf_nm yX6_post 3 := ⟨⟨by decide +kernel, by decide +kernel⟩, by decide +kernel⟩
theorem nm_X6_posts : nf_nm yX6_posts 5 := ⟨⟨by decide +kernel, by decide +kernel⟩, by decide +kernel⟩
theorem nm_X6_arrives : nf_nm yX6_arrives 3 := ⟨⟨by decide +kernel, by decide +kernel⟩, by decide +kernel⟩
theorem nm_X6_known : nf_nm yX6_known 2 := ⟨⟨by decide +kernel, by decide +kernel⟩, by decide +kernel⟩
theorem nm_X6_of : nf_nm yX6_of 2 := ⟨⟨by decide +kernel, by decide +kernel⟩, by decide +kernel⟩
theorem nm_X6_acts : nf_nm yX6_acts 2 := ⟨⟨by decide +kernel, by decide +kernel⟩, by decide +kernel⟩
theorem nm_X6_isIn : nf_nm yX6_isIn 2 := ⟨⟨by decide +kernel, by decide +kernel⟩, by decide +kernel⟩
theorem nm_X6_postAction : nf_nm yX6_postAction 4 := ⟨⟨by decide +kernel, by decide +kernel⟩, by decide +kernel⟩
theorem nm_X6_isArticle : nf_nm yX6_isArticle 1 := ⟨⟨by decide +kernel, by decide +kernel⟩, by decide +kernel⟩
theorem nm_X6_round : nf_nm yX6_round 0 := ⟨⟨by decide +kernel, by decide +kernel⟩, by decide +kernel⟩
theorem nm_X6_goesRound : nf_nm yX6_goesRound 0 := ⟨⟨by decide +kernel, by decide +kernel⟩, by decide +kernel⟩
theorem nm_X6_takes : nf_nm yX6_takes 0 := ⟨⟨by decide +kernel, by decide +kernel⟩, by decide +kernel⟩
theorem nm_X6_settle : nf_nm yX6_settle 0 := ⟨⟨by decide +kernel, by decide +kernel⟩, by decide +kernel⟩
theorem nm_X6_nextDay : nf_nm yX6_nextDay 0 := ⟨⟨by decide +kernel, by decide +kernel⟩, by decide +kernel⟩
theorem nm_X6_isStored : nf_nm yX6_isStored 2 := ⟨⟨by decide +kernel, by decide +kernel⟩, by decide +kernel⟩
theorem nm_X6_knownSince : nf_nm yX6_knownSince 2 := ⟨⟨by decide +kernel, by decide +kernel⟩, by decide +kernel⟩
theorem nm_X6_pendingCancels : nf_nm yX6_pendingCancels 1 := ⟨⟨by decide +kernel, by decide +kernel⟩, by decide +kernel⟩
theorem nm_X6_pendingOf : nf_nm yX6_pendingOf 1 := ⟨⟨by decide +kernel, by decide +kernel⟩, by decide +kernel⟩
theorem nm_X6_holders : nf_nm yX6_holders 1 := ⟨⟨by decide +kernel, by decide +kernel⟩, by decide +kernel⟩
theorem nm_X6_storedInGroup : nf_nm yX6_storedInGroup 2 := ⟨⟨by decide +kernel, by decide +kernel⟩, by decide +kernel⟩
theorem nm_X6_distance : nf_nm yX6_distance 2 := ⟨⟨by decide +kernel, by decide +kernel⟩, by decide +kernel⟩
theorem nm_X6_waiting : nf_nm yX6_waiting 0 := ⟨⟨by decide +kernel, by decide +kernel⟩, by decide +kernel⟩
theorem nm_X6_total : nf_nm yX6_total 1 := ⟨⟨by decide +kernel, by decide +kernel⟩, by decide +kernel⟩
theorem nm_X6_day : nf_nm yX6_day 0 := ⟨⟨by decide +kernel, by decide +kernel⟩, by decide +kernel⟩
theorem nm_X6_undo : nf_nm yX6_undo 0 := ⟨⟨by decide +kernel, by decide +kernel⟩, by decide +kernel⟩
theorem nm_X6_errorCount : nf_nm yX6_errorCount 1 := ⟨⟨by decide +kernel, by decide +kernel⟩, by decide +kernel⟩
theorem nm_X6_digest : nf_nm yX6_digest 0 := ⟨⟨by decide +kernel, by decide +kernel⟩, by decide +kernel⟩
theorem mk_L_9 : nf_lk RL 9 yX5_init cX5_init 2 none := ⟨ml_L_9, cd_X5_init, ini_X5⟩
theorem mk_X5_11 : nf_lk RX5 11 yX3_init cX3_init 2 none := ⟨ml_X5_11, cd_X3_init, ini_X3⟩
theorem mk_X3_52 : nf_lk RX3 52 yJ7_fill_53178 cJ7_fill_53178 4 none := ⟨ml_X3_52, cd_J7_fill_53178, ini_J7⟩
theorem mk_X3_58 : nf_lk RX3 58 yX1_init cX1_init 1 none := ⟨ml_X3_58, cd_X1_init, ini_X1⟩
theorem mk_X1_25 : nf_lk RX1 25 yJ7_fill_53178 cJ7_fill_53178 4 none := ⟨ml_X1_25, cd_J7_fill_53178, ini_J7⟩
theorem mk_L_13 : nf_lk RL 13 yX5_addLink cX5_addLink 4 (some .int) := ⟨ml_L_13, cd_X5_addLink, ini_X5⟩
theorem mk_X5_35 : nf_lk RX5 35 yX5_isBelow cX5_isBelow 2 (some .boolean) := ⟨ml_X5_35, cd_X5_isBelow, ini_X5⟩
theorem mk_X5_39 : nf_lk RX5 39 yX5_fail cX5_fail 3 (some .int) := ⟨ml_X5_39, cd_X5_fail, ini_X5⟩
theorem mk_X5_145 : nf_lk RX5 145 yX5_errorSlot cX5_errorSlot 1 (some .int) := ⟨ml_X5_145, cd_X5_errorSlot, ini_X5⟩
theorem mk_X5_47 : nf_lk RX5 47 yX2_between cX2_between 6 (some .int) := ⟨ml_X5_47, cd_X2_between, ini_X2⟩
theorem mk_X5_56 : nf_lk RX5 56 yX5_save cX5_save 3 none := ⟨ml_X5_56, cd_X5_save, ini_X5⟩
theorem mk_X5_141 : nf_lk RX5 141 yX3_copyFrom cX3_copyFrom 3 none := ⟨ml_X5_141, cd_X3_copyFrom, ini_X3⟩
theorem mk_X3_165 : nf_lk RX3 165 yX2_copyFrom cX2_copyFrom 2 none := ⟨ml_X3_165, cd_X2_copyFrom, ini_X2⟩
theorem mk_X3_168 : nf_lk RX3 168 yX0_copyFrom cX0_copyFrom 2 none := ⟨ml_X3_168, cd_X0_copyFrom, ini_X0⟩
theorem mk_X3_171 : nf_lk RX3 171 yX1_copyFrom cX1_copyFrom 2 none := ⟨ml_X3_171, cd_X1_copyFrom, ini_X1⟩
theorem mk_X3_114 : nf_lk RX3 114 yX4_copyFrom cX4_copyFrom 2 none := ⟨ml_X3_114, cd_X4_copyFrom, ini_X4⟩
theorem mk_X5_59 : nf_lk RX5 59 yX2_append cX2_append 4 (some .int) := ⟨ml_X5_59, cd_X2_append, ini_X2⟩
theorem mk_L_18 : nf_lk RL 18 yX5_removeLink cX5_removeLink 2 (some .int) := ⟨ml_L_18, cd_X5_removeLink, ini_X5⟩
theorem mk_X5_63 : nf_lk RX5 63 yX2_delete cX2_delete 3 none := ⟨ml_X5_63, cd_X2_delete, ini_X2⟩
theorem mk_L_23 : nf_lk RL 23 yX5_setKind cX5_setKind 4 (some .int) := ⟨ml_L_23, cd_X5_setKind, ini_X5⟩
theorem mk_L_28 : nf_lk RL 28 yX5_setGroups cX5_setGroups 4 (some .int) := ⟨ml_L_28, cd_X5_setGroups, ini_X5⟩
theorem mk_L_32 : nf_lk RL 32 yX5_setExpiry cX5_setExpiry 4 (some .int) := ⟨ml_L_32, cd_X5_setExpiry, ini_X5⟩
theorem mk_X5_79 : nf_lk RX5 79 yX5_isLimit cX5_isLimit 1 (some .boolean) := ⟨ml_X5_79, cd_X5_isLimit, ini_X5⟩
theorem mk_L_36 : nf_lk RL 36 yX5_setHistoryLimit cX5_setHistoryLimit 3 (some .int) := ⟨ml_L_36, cd_X5_setHistoryLimit, ini_X5⟩
theorem mk_L_40 : nf_lk RL 40 yX5_post cX5_post 4 (some .int) := ⟨ml_L_40, cd_X5_post, ini_X5⟩
theorem mk_X5_89 : nf_lk RX5 89 yX5_publish cX5_publish 7 (some .int) := ⟨ml_X5_89, cd_X5_publish, ini_X5⟩
theorem mk_X5_170 : nf_lk RX5 170 yX0_append cX0_append 6 (some .int) := ⟨ml_X5_170, cd_X0_append, ini_X0⟩
theorem mk_X5_172 : nf_lk RX5 172 yX3_arrive cX3_arrive 6 (some .boolean) := ⟨ml_X5_172, cd_X3_arrive, ini_X3⟩
theorem mk_X3_59 : nf_lk RX3 59 yX1_knows cX1_knows 2 (some .boolean) := ⟨ml_X3_59, cd_X1_knows, ini_X1⟩
theorem mk_X3_72 : nf_lk RX3 72 yX1_takeCancel cX1_takeCancel 4 (some .boolean) := ⟨ml_X3_72, cd_X1_takeCancel, ini_X1⟩
theorem mk_X3_79 : nf_lk RX3 79 yX1_carries cX1_carries 2 (some .boolean) := ⟨ml_X3_79, cd_X1_carries, ini_X1⟩
theorem mk_X3_82 : nf_lk RX3 82 yX1_keep cX1_keep 2 none := ⟨ml_X3_82, cd_X1_keep, ini_X1⟩
theorem mk_X3_89 : nf_lk RX3 89 yX3_actOnTarget cX3_actOnTarget 5 none := ⟨ml_X3_89, cd_X3_actOnTarget, ini_X3⟩
theorem mk_X3_104 : nf_lk RX3 104 yX1_stores cX1_stores 2 (some .boolean) := ⟨ml_X3_104, cd_X1_stores, ini_X1⟩
theorem mk_X3_107 : nf_lk RX3 107 yX1_drop cX1_drop 2 none := ⟨ml_X3_107, cd_X1_drop, ini_X1⟩
theorem mk_X3_110 : nf_lk RX3 110 yX1_addCancel cX1_addCancel 3 none := ⟨ml_X3_110, cd_X1_addCancel, ini_X1⟩
theorem mk_X3_93 : nf_lk RX3 93 yX2_neighboursOf cX2_neighboursOf 4 (some .int) := ⟨ml_X3_93, cd_X2_neighboursOf, ini_X2⟩
theorem mk_X3_97 : nf_lk RX3 97 yX4_put cX4_put 5 none := ⟨ml_X3_97, cd_X4_put, ini_X4⟩
theorem mk_X4_18 : nf_lk RX4 18 yX4_slot cX4_slot 2 (some .int) := ⟨ml_X4_18, cd_X4_slot, ini_X4⟩
theorem mk_L_44 : nf_lk RL 44 yX5_postAction cX5_postAction 5 (some .int) := ⟨ml_L_44, cd_X5_postAction, ini_X5⟩
theorem mk_X5_93 : nf_lk RX5 93 yX5_isArticle cX5_isArticle 2 (some .boolean) := ⟨ml_X5_93, cd_X5_isArticle, ini_X5⟩
theorem mk_L_49 : nf_lk RL 49 yX5_round cX5_round 1 (some .int) := ⟨ml_L_49, cd_X5_round, ini_X5⟩
theorem mk_X5_105 : nf_lk RX5 105 yX3_performRound cX3_performRound 7 (some .int) := ⟨ml_X5_105, cd_X3_performRound, ini_X3⟩
theorem mk_X3_118 : nf_lk RX3 118 yX4_makeEmpty cX4_makeEmpty 1 none := ⟨ml_X3_118, cd_X4_makeEmpty, ini_X4⟩
theorem mk_X4_28 : nf_lk RX4 28 yJ7_fill_53178 cJ7_fill_53178 4 none := ⟨ml_X4_28, cd_J7_fill_53178, ini_J7⟩
theorem mk_X3_124 : nf_lk RX3 124 yX4_slot cX4_slot 2 (some .int) := ⟨ml_X3_124, cd_X4_slot, ini_X4⟩
theorem mk_X3_137 : nf_lk RX3 137 yX3_sendTo cX3_sendTo 6 (some .boolean) := ⟨ml_X3_137, cd_X3_sendTo, ini_X3⟩
theorem mk_X3_141 : nf_lk RX3 141 yX2_between cX2_between 6 (some .int) := ⟨ml_X3_141, cd_X2_between, ini_X2⟩
theorem mk_X3_147 : nf_lk RX3 147 yX3_arrive cX3_arrive 6 (some .boolean) := ⟨ml_X3_147, cd_X3_arrive, ini_X3⟩
theorem mk_L_54 : nf_lk RL 54 yX5_settle cX5_settle 2 (some .int) := ⟨ml_L_54, cd_X5_settle, ini_X5⟩
theorem mk_X5_112 : nf_lk RX5 112 yX4_size cX4_size 6 (some .int) := ⟨ml_X5_112, cd_X4_size, ini_X4⟩
theorem mk_X4_22 : nf_lk RX4 22 yJ6_bitCount_0f7a4 cJ6_bitCount_0f7a4 1 (some .int) := ⟨ml_X4_22, cd_J6_bitCount_0f7a4, ini_J6⟩
theorem mk_L_58 : nf_lk RL 58 yX5_nextDay cX5_nextDay 1 (some .int) := ⟨ml_L_58, cd_X5_nextDay, ini_X5⟩
theorem mk_X5_116 : nf_lk RX5 116 yX3_beginDay cX3_beginDay 3 (some .int) := ⟨ml_X5_116, cd_X3_beginDay, ini_X3⟩
theorem mk_X3_151 : nf_lk RX3 151 yX3_expireStore cX3_expireStore 5 (some .int) := ⟨ml_X3_151, cd_X3_expireStore, ini_X3⟩
theorem mk_X3_155 : nf_lk RX3 155 yX3_forgetOld cX3_forgetOld 3 none := ⟨ml_X3_155, cd_X3_forgetOld, ini_X3⟩
theorem mk_L_62 : nf_lk RL 62 yX5_isStored cX5_isStored 3 (some .int) := ⟨ml_L_62, cd_X5_isStored, ini_X5⟩
theorem mk_X5_119 : nf_lk RX5 119 yX1_stores cX1_stores 2 (some .boolean) := ⟨ml_X5_119, cd_X1_stores, ini_X1⟩
theorem mk_L_66 : nf_lk RL 66 yX5_knownSince cX5_knownSince 3 (some .int) := ⟨ml_L_66, cd_X5_knownSince, ini_X5⟩
theorem mk_L_70 : nf_lk RL 70 yX5_pendingCancels cX5_pendingCancels 2 (some .int) := ⟨ml_L_70, cd_X5_pendingCancels, ini_X5⟩
theorem mk_X5_125 : nf_lk RX5 125 yX1_countCancels cX1_countCancels 6 (some .int) := ⟨ml_X5_125, cd_X1_countCancels, ini_X1⟩
theorem mk_X1_35 : nf_lk RX1 35 yJ6_bitCount_0f7a4 cJ6_bitCount_0f7a4 1 (some .int) := ⟨ml_X1_35, cd_J6_bitCount_0f7a4, ini_J6⟩
theorem mk_L_74 : nf_lk RL 74 yX5_holders cX5_holders 4 (some .int) := ⟨ml_L_74, cd_X5_holders, ini_X5⟩
theorem mk_L_78 : nf_lk RL 78 yX5_storedInGroup cX5_storedInGroup 5 (some .int) := ⟨ml_L_78, cd_X5_storedInGroup, ini_X5⟩
theorem mk_L_82 : nf_lk RL 82 yX5_distance cX5_distance 5 (some .int) := ⟨ml_L_82, cd_X5_distance, ini_X5⟩
theorem mk_X5_129 : nf_lk RX5 129 yX5_has cX5_has 2 (some .boolean) := ⟨ml_X5_129, cd_X5_has, ini_X5⟩
theorem mk_X5_132 : nf_lk RX5 132 yX2_neighboursOf cX2_neighboursOf 4 (some .int) := ⟨ml_X5_132, cd_X2_neighboursOf, ini_X2⟩
theorem mk_L_86 : nf_lk RL 86 yX5_waiting cX5_waiting 1 (some .int) := ⟨ml_L_86, cd_X5_waiting, ini_X5⟩
theorem mk_L_90 : nf_lk RL 90 yX5_total cX5_total 2 (some .int) := ⟨ml_L_90, cd_X5_total, ini_X5⟩
theorem mk_L_94 : nf_lk RL 94 yX5_day cX5_day 1 (some .int) := ⟨ml_L_94, cd_X5_day, ini_X5⟩
theorem mk_L_98 : nf_lk RL 98 yX5_undo cX5_undo 1 (some .int) := ⟨ml_L_98, cd_X5_undo, ini_X5⟩
theorem mk_L_102 : nf_lk RL 102 yX5_errorCount cX5_errorCount 3 (some .int) := ⟨ml_L_102, cd_X5_errorCount, ini_X5⟩
theorem mk_L_106 : nf_lk RL 106 yX5_digest cX5_digest 4 (some .long) := ⟨ml_L_106, cd_X5_digest, ini_X5⟩
theorem mk_X5_150 : nf_lk RX5 150 yX5_mixAll cX5_mixAll 9 (some .long) := ⟨ml_X5_150, cd_X5_mixAll, ini_X5⟩
theorem mk_X5_154 : nf_lk RX5 154 yX5_mix cX5_mix 3 (some .long) := ⟨ml_X5_154, cd_X5_mix, ini_X5⟩
theorem mk_X5_158 : nf_lk RX5 158 yX5_mixLinks cX5_mixLinks 6 (some .long) := ⟨ml_X5_158, cd_X5_mixLinks, ini_X5⟩
theorem mk_X5_162 : nf_lk RX5 162 yX5_mixArticles cX5_mixArticles 6 (some .long) := ⟨ml_X5_162, cd_X5_mixArticles, ini_X5⟩
theorem mk_X5_166 : nf_lk RX5 166 yX5_mixHost cX5_mixHost 7 (some .long) := ⟨ml_X5_166, cd_X5_mixHost, ini_X5⟩
theorem mk_L_12 : nf_lk RL 12 yX6_init cX6_init 2 none := ⟨ml_L_12, cd_X6_init, ini_X6⟩
theorem mk_L_17 : nf_lk RL 17 yX6_addLink cX6_addLink 5 (some .int) := ⟨ml_L_17, cd_X6_addLink, ini_X6⟩
theorem mk_X6_38 : nf_lk RX6 38 yX6_isHost cX6_isHost 1 (some .boolean) := ⟨ml_X6_38, cd_X6_isHost, ini_X6⟩
theorem mk_X6_28 : nf_lk RX6 28 yX6_in cX6_in 6 (some .boolean) := ⟨ml_X6_28, cd_X6_in, ini_X6⟩
theorem mk_X6_42 : nf_lk RX6 42 yX6_error cX6_error 2 (some .int) := ⟨ml_X6_42, cd_X6_error, ini_X6⟩
theorem mk_X6_46 : nf_lk RX6 46 yX6_linkOf cX6_linkOf 4 (some .int) := ⟨ml_X6_46, cd_X6_linkOf, ini_X6⟩
theorem mk_X6_34 : nf_lk RX6 34 yX6_link cX6_link 3 (some .int) := ⟨ml_X6_34, cd_X6_link, ini_X6⟩
theorem mk_X6_49 : nf_lk RX6 49 yX6_save cX6_save 2 none := ⟨ml_X6_49, cd_X6_save, ini_X6⟩
theorem mk_L_22 : nf_lk RL 22 yX6_removeLink cX6_removeLink 3 (some .int) := ⟨ml_L_22, cd_X6_removeLink, ini_X6⟩
theorem mk_X6_52 : nf_lk RX6 52 yX6_isLink cX6_isLink 2 (some .boolean) := ⟨ml_X6_52, cd_X6_isLink, ini_X6⟩
theorem mk_L_27 : nf_lk RL 27 yX6_setKind cX6_setKind 4 (some .int) := ⟨ml_L_27, cd_X6_setKind, ini_X6⟩
theorem mk_L_31 : nf_lk RL 31 yX6_setGroups cX6_setGroups 4 (some .int) := ⟨ml_L_31, cd_X6_setGroups, ini_X6⟩
theorem mk_L_35 : nf_lk RL 35 yX6_setExpiry cX6_setExpiry 4 (some .int) := ⟨ml_L_35, cd_X6_setExpiry, ini_X6⟩
theorem mk_X6_57 : nf_lk RX6 57 yX6_isGroup cX6_isGroup 1 (some .boolean) := ⟨ml_X6_57, cd_X6_isGroup, ini_X6⟩
theorem mk_L_39 : nf_lk RL 39 yX6_setHistoryLimit cX6_setHistoryLimit 3 (some .int) := ⟨ml_L_39, cd_X6_setHistoryLimit, ini_X6⟩
theorem mk_L_43 : nf_lk RL 43 yX6_post cX6_post 4 (some .int) := ⟨ml_L_43, cd_X6_post, ini_X6⟩
theorem mk_X6_82 : nf_lk RX6 82 yX6_posts cX6_posts 9 (some .int) := ⟨ml_X6_82, cd_X6_posts, ini_X6⟩
theorem mk_X6_76 : nf_lk RX6 76 yX6_arrives cX6_arrives 8 (some .int) := ⟨ml_X6_76, cd_X6_arrives, ini_X6⟩
theorem mk_X6_69 : nf_lk RX6 69 yX6_known cX6_known 3 (some .int) := ⟨ml_X6_69, cd_X6_known, ini_X6⟩
theorem mk_X6_62 : nf_lk RX6 62 yX6_of cX6_of 3 (some .int) := ⟨ml_X6_62, cd_X6_of, ini_X6⟩
theorem mk_X6_72 : nf_lk RX6 72 yX6_acts cX6_acts 6 none := ⟨ml_X6_72, cd_X6_acts, ini_X6⟩
theorem mk_X6_65 : nf_lk RX6 65 yX6_isIn cX6_isIn 3 (some .boolean) := ⟨ml_X6_65, cd_X6_isIn, ini_X6⟩
theorem mk_L_48 : nf_lk RL 48 yX6_postAction cX6_postAction 5 (some .int) := ⟨ml_L_48, cd_X6_postAction, ini_X6⟩
theorem mk_X6_88 : nf_lk RX6 88 yX6_isArticle cX6_isArticle 2 (some .boolean) := ⟨ml_X6_88, cd_X6_isArticle, ini_X6⟩
theorem mk_L_53 : nf_lk RL 53 yX6_round cX6_round 1 (some .int) := ⟨ml_L_53, cd_X6_round, ini_X6⟩
theorem mk_X6_95 : nf_lk RX6 95 yX6_goesRound cX6_goesRound 8 (some .int) := ⟨ml_X6_95, cd_X6_goesRound, ini_X6⟩
theorem mk_X6_91 : nf_lk RX6 91 yX6_takes cX6_takes 5 (some .int) := ⟨ml_X6_91, cd_X6_takes, ini_X6⟩
theorem mk_L_57 : nf_lk RL 57 yX6_settle cX6_settle 3 (some .int) := ⟨ml_L_57, cd_X6_settle, ini_X6⟩
theorem mk_L_61 : nf_lk RL 61 yX6_nextDay cX6_nextDay 5 (some .int) := ⟨ml_L_61, cd_X6_nextDay, ini_X6⟩
theorem mk_L_65 : nf_lk RL 65 yX6_isStored cX6_isStored 3 (some .int) := ⟨ml_L_65, cd_X6_isStored, ini_X6⟩
theorem mk_L_69 : nf_lk RL 69 yX6_knownSince cX6_knownSince 3 (some .int) := ⟨ml_L_69, cd_X6_knownSince, ini_X6⟩
theorem mk_L_73 : nf_lk RL 73 yX6_pendingCancels cX6_pendingCancels 2 (some .int) := ⟨ml_L_73, cd_X6_pendingCancels, ini_X6⟩
theorem mk_X6_98 : nf_lk RX6 98 yX6_pendingOf cX6_pendingOf 5 (some .int) := ⟨ml_X6_98, cd_X6_pendingOf, ini_X6⟩
theorem mk_L_77 : nf_lk RL 77 yX6_holders cX6_holders 4 (some .int) := ⟨ml_L_77, cd_X6_holders, ini_X6⟩
theorem mk_L_81 : nf_lk RL 81 yX6_storedInGroup cX6_storedInGroup 5 (some .int) := ⟨ml_L_81, cd_X6_storedInGroup, ini_X6⟩
theorem mk_L_85 : nf_lk RL 85 yX6_distance cX6_distance 8 (some .int) := ⟨ml_L_85, cd_X6_distance, ini_X6⟩
theorem mk_L_89 : nf_lk RL 89 yX6_waiting cX6_waiting 1 (some .int) := ⟨ml_L_89, cd_X6_waiting, ini_X6⟩
theorem mk_L_93 : nf_lk RL 93 yX6_total cX6_total 2 (some .int) := ⟨ml_L_93, cd_X6_total, ini_X6⟩
theorem mk_L_97 : nf_lk RL 97 yX6_day cX6_day 1 (some .int) := ⟨ml_L_97, cd_X6_day, ini_X6⟩
theorem mk_L_101 : nf_lk RL 101 yX6_undo cX6_undo 2 (some .int) := ⟨ml_L_101, cd_X6_undo, ini_X6⟩
theorem mk_L_105 : nf_lk RL 105 yX6_errorCount cX6_errorCount 2 (some .int) := ⟨ml_L_105, cd_X6_errorCount, ini_X6⟩
theorem mk_L_110 : nf_lk RL 110 yX6_digest cX6_digest 5 (some .long) := ⟨ml_L_110, cd_X6_digest, ini_X6⟩
theorem mn_X2_29 : Cond.methodLinkNest RX2 29 yX5_isBelow RX5 ∈ nf_nw ∧ Cond.code yX5_isBelow cX5_isBelow 2 (some .boolean) ∈ nf_tbl ∧ Cond.initialized yX5_isBelow.cls ∈ nf_tbl := ⟨by decide +kernel, cd_X5_isBelow, ini_X5⟩
theorem mn_X1_31 : Cond.methodLinkNest RX1 31 yX5_has RX5 ∈ nf_nw ∧ Cond.code yX5_has cX5_has 2 (some .boolean) ∈ nf_tbl ∧ Cond.initialized yX5_has.cls ∈ nf_tbl := ⟨by decide +kernel, cd_X5_has, ini_X5⟩
theorem mn_X2_25 : Cond.methodLinkNest RX2 25 yX5_has RX5 ∈ nf_nw ∧ Cond.code yX5_has cX5_has 2 (some .boolean) ∈ nf_tbl ∧ Cond.initialized yX5_has.cls ∈ nf_tbl := ⟨by decide +kernel, cd_X5_has, ini_X5⟩
theorem mn_X3_131 : Cond.methodLinkNest RX3 131 yX5_has RX5 ∈ nf_nw ∧ Cond.code yX5_has cX5_has 2 (some .boolean) ∈ nf_tbl ∧ Cond.initialized yX5_has.cls ∈ nf_tbl := ⟨by decide +kernel, cd_X5_has, ini_X5⟩
set_option maxRecDepth 20000 in
theorem nf_inX0 : ∀ w ∈ u_ws RX0 TX0 6, w ∈ nf_tbl := by decide +kernel
set_option maxRecDepth 20000 in
theorem nf_inX1 : ∀ w ∈ u_ws RX1 TX1 4, w ∈ nf_tbl := by decide +kernel
set_option maxRecDepth 20000 in
theorem nf_inX2 : ∀ w ∈ u_ws RX2 TX2 4, w ∈ nf_tbl := by decide +kernel
set_option maxRecDepth 20000 in
theorem nf_inX3 : ∀ w ∈ u_ws RX3 TX3 8, w ∈ nf_tbl := by decide +kernel
set_option maxRecDepth 20000 in
theorem nf_inX4 : ∀ w ∈ u_ws RX4 TX4 2, w ∈ nf_tbl := by decide +kernel
set_option maxRecDepth 20000 in
theorem nf_inX5 : ∀ w ∈ u_ws RX5 TX5 5, w ∈ nf_tbl := by decide +kernel
set_option maxRecDepth 20000 in
theorem nf_inX6 : ∀ w ∈ u_ws RX6 TX6 5, w ∈ nf_tbl := by decide +kernel
