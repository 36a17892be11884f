theorem u_ml_L_132 : Cond.methodLink RL 132 yL_seek ∈ x_U := x_ut 628 (by decide +kernel) rfl
theorem u_ini_L : Cond.initialized RL ∈ x_U := x_ut 0 (by decide +kernel) rfl
theorem u_st_L_seek : Cond.static yL_seek ∈ x_U := x_ut 629 (by decide +kernel) rfl
theorem u_ml_L_137 : Cond.methodLink RL 137 yX7_seek ∈ x_U := x_ut 1111 (by decide +kernel) rfl
theorem u_co_X7_seek : Cond.code yX7_seek cX7_seek 3 (some .int) ∈ x_U := x_ut 1114 (by decide +kernel) rfl
theorem u_in_X7_seek : Cond.instanceMethod yX7_seek ∈ x_U := x_ut 1112 (by decide +kernel) rfl
theorem u_se_X7_seek : Cond.selects RX7 yX7_seek yX7_seek ∈ x_U := x_ut 1113 (by decide +kernel) rfl
theorem u_ml_L_138 : Cond.methodLink RL 138 yX7_thrown ∈ x_U := x_ut 1107 (by decide +kernel) rfl
theorem u_co_X7_thrown : Cond.code yX7_thrown cX7_thrown 1 (some .int) ∈ x_U := x_ut 1110 (by decide +kernel) rfl
theorem u_in_X7_thrown : Cond.instanceMethod yX7_thrown ∈ x_U := x_ut 1108 (by decide +kernel) rfl
theorem u_se_X7_thrown : Cond.selects RX7 yX7_thrown yX7_thrown ∈ x_U := x_ut 1109 (by decide +kernel) rfl
theorem u_ml_L_141 : Cond.methodLink RL 141 yL_leave ∈ x_U := x_ut 732 (by decide +kernel) rfl
theorem u_st_L_leave : Cond.static yL_leave ∈ x_U := x_ut 733 (by decide +kernel) rfl
theorem u_ml_L_143 : Cond.methodLink RL 143 yX7_leave ∈ x_U := x_ut 1139 (by decide +kernel) rfl
theorem u_co_X7_leave : Cond.code yX7_leave cX7_leave 2 (some .int) ∈ x_U := x_ut 1142 (by decide +kernel) rfl
theorem u_in_X7_leave : Cond.instanceMethod yX7_leave ∈ x_U := x_ut 1140 (by decide +kernel) rfl
theorem u_se_X7_leave : Cond.selects RX7 yX7_leave yX7_leave ∈ x_U := x_ut 1141 (by decide +kernel) rfl
theorem u_ml_L_144 : Cond.methodLink RL 144 yL_giveUp ∈ x_U := x_ut 743 (by decide +kernel) rfl
theorem u_st_L_giveUp : Cond.static yL_giveUp ∈ x_U := x_ut 744 (by decide +kernel) rfl
theorem u_ml_L_146 : Cond.methodLink RL 146 yX7_giveUp ∈ x_U := x_ut 1150 (by decide +kernel) rfl
theorem u_co_X7_giveUp : Cond.code yX7_giveUp cX7_giveUp 4 (some .int) ∈ x_U := x_ut 1153 (by decide +kernel) rfl
theorem u_in_X7_giveUp : Cond.instanceMethod yX7_giveUp ∈ x_U := x_ut 1151 (by decide +kernel) rfl
theorem u_se_X7_giveUp : Cond.selects RX7 yX7_giveUp yX7_giveUp ∈ x_U := x_ut 1152 (by decide +kernel) rfl
theorem u_ml_L_147 : Cond.methodLink RL 147 yL_renew ∈ x_U := x_ut 751 (by decide +kernel) rfl
theorem u_st_L_renew : Cond.static yL_renew ∈ x_U := x_ut 752 (by decide +kernel) rfl
theorem u_ml_L_149 : Cond.methodLink RL 149 yX7_renew ∈ x_U := x_ut 1155 (by decide +kernel) rfl
theorem u_co_X7_renew : Cond.code yX7_renew cX7_renew 2 (some .int) ∈ x_U := x_ut 1158 (by decide +kernel) rfl
theorem u_in_X7_renew : Cond.instanceMethod yX7_renew ∈ x_U := x_ut 1156 (by decide +kernel) rfl
theorem u_se_X7_renew : Cond.selects RX7 yX7_renew yX7_renew ∈ x_U := x_ut 1157 (by decide +kernel) rfl
theorem u_ml_L_150 : Cond.methodLink RL 150 yL_reserve ∈ x_U := x_ut 759 (by decide +kernel) rfl
theorem u_st_L_reserve : Cond.static yL_reserve ∈ x_U := x_ut 760 (by decide +kernel) rfl
theorem u_ml_L_153 : Cond.methodLink RL 153 yX7_reserve ∈ x_U := x_ut 1162 (by decide +kernel) rfl
theorem u_co_X7_reserve : Cond.code yX7_reserve cX7_reserve 5 none ∈ x_U := x_ut 1165 (by decide +kernel) rfl
theorem u_in_X7_reserve : Cond.instanceMethod yX7_reserve ∈ x_U := x_ut 1163 (by decide +kernel) rfl
theorem u_se_X7_reserve : Cond.selects RX7 yX7_reserve yX7_reserve ∈ x_U := x_ut 1164 (by decide +kernel) rfl
theorem u_ml_L_154 : Cond.methodLink RL 154 yL_unreserve ∈ x_U := x_ut 775 (by decide +kernel) rfl
theorem u_st_L_unreserve : Cond.static yL_unreserve ∈ x_U := x_ut 776 (by decide +kernel) rfl
theorem u_ml_L_156 : Cond.methodLink RL 156 yX7_unreserve ∈ x_U := x_ut 1174 (by decide +kernel) rfl
theorem u_co_X7_unreserve : Cond.code yX7_unreserve cX7_unreserve 4 (some .int) ∈ x_U := x_ut 1177 (by decide +kernel) rfl
theorem u_in_X7_unreserve : Cond.instanceMethod yX7_unreserve ∈ x_U := x_ut 1175 (by decide +kernel) rfl
theorem u_se_X7_unreserve : Cond.selects RX7 yX7_unreserve yX7_unreserve ∈ x_U := x_ut 1176 (by decide +kernel) rfl
theorem u_ml_L_157 : Cond.methodLink RL 157 yL_turnGhost ∈ x_U := x_ut 783 (by decide +kernel) rfl
theorem u_st_L_turnGhost : Cond.static yL_turnGhost ∈ x_U := x_ut 784 (by decide +kernel) rfl
theorem u_ml_L_159 : Cond.methodLink RL 159 yX7_turnGhost ∈ x_U := x_ut 1178 (by decide +kernel) rfl
theorem u_co_X7_turnGhost : Cond.code yX7_turnGhost cX7_turnGhost 2 (some .boolean) ∈ x_U := x_ut 1181 (by decide +kernel) rfl
theorem u_in_X7_turnGhost : Cond.instanceMethod yX7_turnGhost ∈ x_U := x_ut 1179 (by decide +kernel) rfl
theorem u_se_X7_turnGhost : Cond.selects RX7 yX7_turnGhost yX7_turnGhost ∈ x_U := x_ut 1180 (by decide +kernel) rfl
theorem u_ml_L_160 : Cond.methodLink RL 160 yL_changeLease ∈ x_U := x_ut 790 (by decide +kernel) rfl
theorem u_st_L_changeLease : Cond.static yL_changeLease ∈ x_U := x_ut 791 (by decide +kernel) rfl
theorem u_ml_L_162 : Cond.methodLink RL 162 yX7_changeLease ∈ x_U := x_ut 1186 (by decide +kernel) rfl
theorem u_co_X7_changeLease : Cond.code yX7_changeLease cX7_changeLease 2 (some .int) ∈ x_U := x_ut 1189 (by decide +kernel) rfl
theorem u_in_X7_changeLease : Cond.instanceMethod yX7_changeLease ∈ x_U := x_ut 1187 (by decide +kernel) rfl
theorem u_se_X7_changeLease : Cond.selects RX7 yX7_changeLease yX7_changeLease ∈ x_U := x_ut 1188 (by decide +kernel) rfl
theorem u_ml_L_163 : Cond.methodLink RL 163 yL_changeHold ∈ x_U := x_ut 817 (by decide +kernel) rfl
theorem u_st_L_changeHold : Cond.static yL_changeHold ∈ x_U := x_ut 818 (by decide +kernel) rfl
theorem u_ml_L_165 : Cond.methodLink RL 165 yX7_changeHold ∈ x_U := x_ut 1194 (by decide +kernel) rfl
theorem u_co_X7_changeHold : Cond.code yX7_changeHold cX7_changeHold 2 (some .int) ∈ x_U := x_ut 1197 (by decide +kernel) rfl
theorem u_in_X7_changeHold : Cond.instanceMethod yX7_changeHold ∈ x_U := x_ut 1195 (by decide +kernel) rfl
theorem u_se_X7_changeHold : Cond.selects RX7 yX7_changeHold yX7_changeHold ∈ x_U := x_ut 1196 (by decide +kernel) rfl
theorem u_ml_L_166 : Cond.methodLink RL 166 yL_changeShut ∈ x_U := x_ut 824 (by decide +kernel) rfl
theorem u_st_L_changeShut : Cond.static yL_changeShut ∈ x_U := x_ut 825 (by decide +kernel) rfl
theorem u_ml_L_168 : Cond.methodLink RL 168 yX7_changeShut ∈ x_U := x_ut 1198 (by decide +kernel) rfl
theorem u_co_X7_changeShut : Cond.code yX7_changeShut cX7_changeShut 2 (some .int) ∈ x_U := x_ut 1201 (by decide +kernel) rfl
theorem u_in_X7_changeShut : Cond.instanceMethod yX7_changeShut ∈ x_U := x_ut 1199 (by decide +kernel) rfl
theorem u_se_X7_changeShut : Cond.selects RX7 yX7_changeShut yX7_changeShut ∈ x_U := x_ut 1200 (by decide +kernel) rfl
theorem u_ml_L_169 : Cond.methodLink RL 169 yL_deliver ∈ x_U := x_ut 831 (by decide +kernel) rfl
theorem u_st_L_deliver : Cond.static yL_deliver ∈ x_U := x_ut 832 (by decide +kernel) rfl
theorem u_ml_L_171 : Cond.methodLink RL 171 yX7_deliver ∈ x_U := x_ut 1202 (by decide +kernel) rfl
theorem u_co_X7_deliver : Cond.code yX7_deliver cX7_deliver 2 (some .int) ∈ x_U := x_ut 1205 (by decide +kernel) rfl
theorem u_in_X7_deliver : Cond.instanceMethod yX7_deliver ∈ x_U := x_ut 1203 (by decide +kernel) rfl
theorem u_se_X7_deliver : Cond.selects RX7 yX7_deliver yX7_deliver ∈ x_U := x_ut 1204 (by decide +kernel) rfl
theorem u_ml_L_172 : Cond.methodLink RL 172 yL_lose ∈ x_U := x_ut 845 (by decide +kernel) rfl
theorem u_st_L_lose : Cond.static yL_lose ∈ x_U := x_ut 846 (by decide +kernel) rfl
theorem u_ml_L_174 : Cond.methodLink RL 174 yX7_lose ∈ x_U := x_ut 1240 (by decide +kernel) rfl
theorem u_co_X7_lose : Cond.code yX7_lose cX7_lose 2 (some .int) ∈ x_U := x_ut 1243 (by decide +kernel) rfl
theorem u_in_X7_lose : Cond.instanceMethod yX7_lose ∈ x_U := x_ut 1241 (by decide +kernel) rfl
theorem u_se_X7_lose : Cond.selects RX7 yX7_lose yX7_lose ∈ x_U := x_ut 1242 (by decide +kernel) rfl
theorem u_ml_L_175 : Cond.methodLink RL 175 yX6_deliverAll ∈ x_U := x_ut 258 (by decide +kernel) rfl
theorem u_co_X6_deliverAll : Cond.code yX6_deliverAll cX6_deliverAll 1 (some .int) ∈ x_U := x_ut 261 (by decide +kernel) rfl
theorem u_in_X6_deliverAll : Cond.instanceMethod yX6_deliverAll ∈ x_U := x_ut 259 (by decide +kernel) rfl
theorem u_se_X6_deliverAll : Cond.selects RX6 yX6_deliverAll yX6_deliverAll ∈ x_U := x_ut 260 (by decide +kernel) rfl
theorem u_ml_L_178 : Cond.methodLink RL 178 yX7_deliverAll ∈ x_U := x_ut 1244 (by decide +kernel) rfl
theorem u_co_X7_deliverAll : Cond.code yX7_deliverAll cX7_deliverAll 1 (some .int) ∈ x_U := x_ut 1247 (by decide +kernel) rfl
theorem u_in_X7_deliverAll : Cond.instanceMethod yX7_deliverAll ∈ x_U := x_ut 1245 (by decide +kernel) rfl
theorem u_se_X7_deliverAll : Cond.selects RX7 yX7_deliverAll yX7_deliverAll ∈ x_U := x_ut 1246 (by decide +kernel) rfl
theorem u_ml_L_179 : Cond.methodLink RL 179 yL_tick ∈ x_U := x_ut 856 (by decide +kernel) rfl
theorem u_st_L_tick : Cond.static yL_tick ∈ x_U := x_ut 857 (by decide +kernel) rfl
theorem u_ml_L_181 : Cond.methodLink RL 181 yX7_tick ∈ x_U := x_ut 1251 (by decide +kernel) rfl
theorem u_co_X7_tick : Cond.code yX7_tick cX7_tick 2 (some .int) ∈ x_U := x_ut 1254 (by decide +kernel) rfl
theorem u_in_X7_tick : Cond.instanceMethod yX7_tick ∈ x_U := x_ut 1252 (by decide +kernel) rfl
theorem u_se_X7_tick : Cond.selects RX7 yX7_tick yX7_tick ∈ x_U := x_ut 1253 (by decide +kernel) rfl
theorem u_ml_L_182 : Cond.methodLink RL 182 yL_append ∈ x_U := x_ut 877 (by decide +kernel) rfl
theorem u_st_L_append : Cond.static yL_append ∈ x_U := x_ut 878 (by decide +kernel) rfl
theorem u_ml_L_184 : Cond.methodLink RL 184 yX7_append ∈ x_U := x_ut 1262 (by decide +kernel) rfl
theorem u_co_X7_append : Cond.code yX7_append cX7_append 2 (some .int) ∈ x_U := x_ut 1265 (by decide +kernel) rfl
theorem u_in_X7_append : Cond.instanceMethod yX7_append ∈ x_U := x_ut 1263 (by decide +kernel) rfl
theorem u_se_X7_append : Cond.selects RX7 yX7_append yX7_append ∈ x_U := x_ut 1264 (by decide +kernel) rfl
theorem u_ml_L_185 : Cond.methodLink RL 185 yX6_clearBuffer ∈ x_U := x_ut 427 (by decide +kernel) rfl
theorem u_co_X6_clearBuffer : Cond.code yX6_clearBuffer cX6_clearBuffer 2 (some .int) ∈ x_U := x_ut 430 (by decide +kernel) rfl
theorem u_in_X6_clearBuffer : Cond.instanceMethod yX6_clearBuffer ∈ x_U := x_ut 428 (by decide +kernel) rfl
theorem u_se_X6_clearBuffer : Cond.selects RX6 yX6_clearBuffer yX6_clearBuffer ∈ x_U := x_ut 429 (by decide +kernel) rfl
theorem u_ml_L_188 : Cond.methodLink RL 188 yX7_clearBuffer ∈ x_U := x_ut 1268 (by decide +kernel) rfl
theorem u_co_X7_clearBuffer : Cond.code yX7_clearBuffer cX7_clearBuffer 2 (some .int) ∈ x_U := x_ut 1271 (by decide +kernel) rfl
theorem u_in_X7_clearBuffer : Cond.instanceMethod yX7_clearBuffer ∈ x_U := x_ut 1269 (by decide +kernel) rfl
theorem u_se_X7_clearBuffer : Cond.selects RX7 yX7_clearBuffer yX7_clearBuffer ∈ x_U := x_ut 1270 (by decide +kernel) rfl
theorem u_ml_L_189 : Cond.methodLink RL 189 yX6_firstError ∈ x_U := x_ut 431 (by decide +kernel) rfl
theorem u_co_X6_firstError : Cond.code yX6_firstError cX6_firstError 1 (some .int) ∈ x_U := x_ut 434 (by decide +kernel) rfl
theorem u_in_X6_firstError : Cond.instanceMethod yX6_firstError ∈ x_U := x_ut 432 (by decide +kernel) rfl
theorem u_se_X6_firstError : Cond.selects RX6 yX6_firstError yX6_firstError ∈ x_U := x_ut 433 (by decide +kernel) rfl
theorem u_ml_L_192 : Cond.methodLink RL 192 yX7_firstError ∈ x_U := x_ut 1272 (by decide +kernel) rfl
theorem u_co_X7_firstError : Cond.code yX7_firstError cX7_firstError 1 (some .int) ∈ x_U := x_ut 1275 (by decide +kernel) rfl
theorem u_in_X7_firstError : Cond.instanceMethod yX7_firstError ∈ x_U := x_ut 1273 (by decide +kernel) rfl
theorem u_se_X7_firstError : Cond.selects RX7 yX7_firstError yX7_firstError ∈ x_U := x_ut 1274 (by decide +kernel) rfl
theorem u_ml_L_193 : Cond.methodLink RL 193 yL_play ∈ x_U := x_ut 888 (by decide +kernel) rfl
theorem u_st_L_play : Cond.static yL_play ∈ x_U := x_ut 889 (by decide +kernel) rfl
theorem u_ml_L_196 : Cond.methodLink RL 196 yX7_play ∈ x_U := x_ut 1308 (by decide +kernel) rfl
theorem u_co_X7_play : Cond.code yX7_play cX7_play 1 (some .int) ∈ x_U := x_ut 1311 (by decide +kernel) rfl
theorem u_in_X7_play : Cond.instanceMethod yX7_play ∈ x_U := x_ut 1309 (by decide +kernel) rfl
theorem u_se_X7_play : Cond.selects RX7 yX7_play yX7_play ∈ x_U := x_ut 1310 (by decide +kernel) rfl
theorem u_ml_L_197 : Cond.methodLink RL 197 yL_keep ∈ x_U := x_ut 913 (by decide +kernel) rfl
theorem u_st_L_keep : Cond.static yL_keep ∈ x_U := x_ut 914 (by decide +kernel) rfl
theorem u_ml_L_200 : Cond.methodLink RL 200 yX7_keep ∈ x_U := x_ut 1315 (by decide +kernel) rfl
theorem u_co_X7_keep : Cond.code yX7_keep cX7_keep 3 none ∈ x_U := x_ut 1318 (by decide +kernel) rfl
theorem u_in_X7_keep : Cond.instanceMethod yX7_keep ∈ x_U := x_ut 1316 (by decide +kernel) rfl
theorem u_se_X7_keep : Cond.selects RX7 yX7_keep yX7_keep ∈ x_U := x_ut 1317 (by decide +kernel) rfl
theorem u_ml_L_201 : Cond.methodLink RL 201 yL_goBack ∈ x_U := x_ut 920 (by decide +kernel) rfl
theorem u_st_L_goBack : Cond.static yL_goBack ∈ x_U := x_ut 921 (by decide +kernel) rfl
theorem u_ml_L_203 : Cond.methodLink RL 203 yX7_goBack ∈ x_U := x_ut 1322 (by decide +kernel) rfl
theorem u_co_X7_goBack : Cond.code yX7_goBack cX7_goBack 3 none ∈ x_U := x_ut 1325 (by decide +kernel) rfl
theorem u_in_X7_goBack : Cond.instanceMethod yX7_goBack ∈ x_U := x_ut 1323 (by decide +kernel) rfl
theorem u_se_X7_goBack : Cond.selects RX7 yX7_goBack yX7_goBack ∈ x_U := x_ut 1324 (by decide +kernel) rfl
theorem u_ml_L_204 : Cond.methodLink RL 204 yL_undo ∈ x_U := x_ut 927 (by decide +kernel) rfl
theorem u_st_L_undo : Cond.static yL_undo ∈ x_U := x_ut 928 (by decide +kernel) rfl
theorem u_ml_L_207 : Cond.methodLink RL 207 yX7_undo ∈ x_U := x_ut 1326 (by decide +kernel) rfl
theorem u_co_X7_undo : Cond.code yX7_undo cX7_undo 2 none ∈ x_U := x_ut 1329 (by decide +kernel) rfl
theorem u_in_X7_undo : Cond.instanceMethod yX7_undo ∈ x_U := x_ut 1327 (by decide +kernel) rfl
theorem u_se_X7_undo : Cond.selects RX7 yX7_undo yX7_undo ∈ x_U := x_ut 1328 (by decide +kernel) rfl
theorem u_ml_L_208 : Cond.methodLink RL 208 yX6_savedStates ∈ x_U := x_ut 462 (by decide +kernel) rfl
theorem u_co_X6_savedStates : Cond.code yX6_savedStates cX6_savedStates 1 (some .int) ∈ x_U := x_ut 465 (by decide +kernel) rfl
theorem u_in_X6_savedStates : Cond.instanceMethod yX6_savedStates ∈ x_U := x_ut 463 (by decide +kernel) rfl
theorem u_se_X6_savedStates : Cond.selects RX6 yX6_savedStates yX6_savedStates ∈ x_U := x_ut 464 (by decide +kernel) rfl
theorem u_ml_L_211 : Cond.methodLink RL 211 yX7_savedStates ∈ x_U := x_ut 1330 (by decide +kernel) rfl
theorem u_co_X7_savedStates : Cond.code yX7_savedStates cX7_savedStates 1 (some .int) ∈ x_U := x_ut 1333 (by decide +kernel) rfl
theorem u_in_X7_savedStates : Cond.instanceMethod yX7_savedStates ∈ x_U := x_ut 1331 (by decide +kernel) rfl
theorem u_se_X7_savedStates : Cond.selects RX7 yX7_savedStates yX7_savedStates ∈ x_U := x_ut 1332 (by decide +kernel) rfl
theorem u_ml_L_212 : Cond.methodLink RL 212 yL_doingOf ∈ x_U := x_ut 938 (by decide +kernel) rfl
theorem u_st_L_doingOf : Cond.static yL_doingOf ∈ x_U := x_ut 939 (by decide +kernel) rfl
theorem u_ml_L_214 : Cond.methodLink RL 214 yX7_doingOf ∈ x_U := x_ut 1334 (by decide +kernel) rfl
theorem u_co_X7_doingOf : Cond.code yX7_doingOf cX7_doingOf 2 (some .int) ∈ x_U := x_ut 1337 (by decide +kernel) rfl
theorem u_in_X7_doingOf : Cond.instanceMethod yX7_doingOf ∈ x_U := x_ut 1335 (by decide +kernel) rfl
theorem u_se_X7_doingOf : Cond.selects RX7 yX7_doingOf yX7_doingOf ∈ x_U := x_ut 1336 (by decide +kernel) rfl
theorem u_ml_L_215 : Cond.methodLink RL 215 yL_roomOf ∈ x_U := x_ut 945 (by decide +kernel) rfl
theorem u_st_L_roomOf : Cond.static yL_roomOf ∈ x_U := x_ut 946 (by decide +kernel) rfl
theorem u_ml_L_217 : Cond.methodLink RL 217 yX7_roomOf ∈ x_U := x_ut 1342 (by decide +kernel) rfl
theorem u_co_X7_roomOf : Cond.code yX7_roomOf cX7_roomOf 3 (some .int) ∈ x_U := x_ut 1345 (by decide +kernel) rfl
theorem u_in_X7_roomOf : Cond.instanceMethod yX7_roomOf ∈ x_U := x_ut 1343 (by decide +kernel) rfl
theorem u_se_X7_roomOf : Cond.selects RX7 yX7_roomOf yX7_roomOf ∈ x_U := x_ut 1344 (by decide +kernel) rfl
theorem u_ml_L_218 : Cond.methodLink RL 218 yL_ticksLeft ∈ x_U := x_ut 952 (by decide +kernel) rfl
theorem u_st_L_ticksLeft : Cond.static yL_ticksLeft ∈ x_U := x_ut 953 (by decide +kernel) rfl
theorem u_ml_L_220 : Cond.methodLink RL 220 yX7_ticksLeft ∈ x_U := x_ut 1346 (by decide +kernel) rfl
theorem u_co_X7_ticksLeft : Cond.code yX7_ticksLeft cX7_ticksLeft 2 (some .int) ∈ x_U := x_ut 1349 (by decide +kernel) rfl
theorem u_in_X7_ticksLeft : Cond.instanceMethod yX7_ticksLeft ∈ x_U := x_ut 1347 (by decide +kernel) rfl
theorem u_se_X7_ticksLeft : Cond.selects RX7 yX7_ticksLeft yX7_ticksLeft ∈ x_U := x_ut 1348 (by decide +kernel) rfl
theorem u_ml_L_221 : Cond.methodLink RL 221 yL_ticksToRenewal ∈ x_U := x_ut 959 (by decide +kernel) rfl
theorem u_st_L_ticksToRenewal : Cond.static yL_ticksToRenewal ∈ x_U := x_ut 960 (by decide +kernel) rfl
theorem u_ml_L_223 : Cond.methodLink RL 223 yX7_ticksToRenewal ∈ x_U := x_ut 1354 (by decide +kernel) rfl
theorem u_co_X7_ticksToRenewal : Cond.code yX7_ticksToRenewal cX7_ticksToRenewal 3 (some .int) ∈ x_U := x_ut 1357 (by decide +kernel) rfl
theorem u_in_X7_ticksToRenewal : Cond.instanceMethod yX7_ticksToRenewal ∈ x_U := x_ut 1355 (by decide +kernel) rfl
theorem u_se_X7_ticksToRenewal : Cond.selects RX7 yX7_ticksToRenewal yX7_ticksToRenewal ∈ x_U := x_ut 1356 (by decide +kernel) rfl
theorem u_ml_L_224 : Cond.methodLink RL 224 yL_isHaunted ∈ x_U := x_ut 966 (by decide +kernel) rfl
theorem u_st_L_isHaunted : Cond.static yL_isHaunted ∈ x_U := x_ut 967 (by decide +kernel) rfl
theorem u_ml_L_226 : Cond.methodLink RL 226 yX7_isHaunted ∈ x_U := x_ut 1362 (by decide +kernel) rfl
theorem u_co_X7_isHaunted : Cond.code yX7_isHaunted cX7_isHaunted 2 (some .boolean) ∈ x_U := x_ut 1365 (by decide +kernel) rfl
theorem u_in_X7_isHaunted : Cond.instanceMethod yX7_isHaunted ∈ x_U := x_ut 1363 (by decide +kernel) rfl
theorem u_se_X7_isHaunted : Cond.selects RX7 yX7_isHaunted yX7_isHaunted ∈ x_U := x_ut 1364 (by decide +kernel) rfl
theorem u_ml_L_227 : Cond.methodLink RL 227 yL_staysOf ∈ x_U := x_ut 973 (by decide +kernel) rfl
theorem u_st_L_staysOf : Cond.static yL_staysOf ∈ x_U := x_ut 974 (by decide +kernel) rfl
theorem u_ml_L_229 : Cond.methodLink RL 229 yX7_staysOf ∈ x_U := x_ut 1370 (by decide +kernel) rfl
theorem u_co_X7_staysOf : Cond.code yX7_staysOf cX7_staysOf 2 (some .int) ∈ x_U := x_ut 1373 (by decide +kernel) rfl
theorem u_in_X7_staysOf : Cond.instanceMethod yX7_staysOf ∈ x_U := x_ut 1371 (by decide +kernel) rfl
theorem u_se_X7_staysOf : Cond.selects RX7 yX7_staysOf yX7_staysOf ∈ x_U := x_ut 1372 (by decide +kernel) rfl
theorem u_ml_L_230 : Cond.methodLink RL 230 yX6_housed ∈ x_U := x_ut 466 (by decide +kernel) rfl
theorem u_co_X6_housed : Cond.code yX6_housed cX6_housed 1 (some .int) ∈ x_U := x_ut 469 (by decide +kernel) rfl
theorem u_in_X6_housed : Cond.instanceMethod yX6_housed ∈ x_U := x_ut 467 (by decide +kernel) rfl
theorem u_se_X6_housed : Cond.selects RX6 yX6_housed yX6_housed ∈ x_U := x_ut 468 (by decide +kernel) rfl
theorem u_ml_L_233 : Cond.methodLink RL 233 yX7_housed ∈ x_U := x_ut 1374 (by decide +kernel) rfl
theorem u_co_X7_housed : Cond.code yX7_housed cX7_housed 1 (some .int) ∈ x_U := x_ut 1377 (by decide +kernel) rfl
theorem u_in_X7_housed : Cond.instanceMethod yX7_housed ∈ x_U := x_ut 1375 (by decide +kernel) rfl
theorem u_se_X7_housed : Cond.selects RX7 yX7_housed yX7_housed ∈ x_U := x_ut 1376 (by decide +kernel) rfl
theorem u_ml_L_234 : Cond.methodLink RL 234 yL_stateOf ∈ x_U := x_ut 980 (by decide +kernel) rfl
theorem u_st_L_stateOf : Cond.static yL_stateOf ∈ x_U := x_ut 981 (by decide +kernel) rfl
theorem u_ml_L_236 : Cond.methodLink RL 236 yX7_stateOf ∈ x_U := x_ut 1378 (by decide +kernel) rfl
theorem u_co_X7_stateOf : Cond.code yX7_stateOf cX7_stateOf 2 (some .int) ∈ x_U := x_ut 1381 (by decide +kernel) rfl
theorem u_in_X7_stateOf : Cond.instanceMethod yX7_stateOf ∈ x_U := x_ut 1379 (by decide +kernel) rfl
theorem u_se_X7_stateOf : Cond.selects RX7 yX7_stateOf yX7_stateOf ∈ x_U := x_ut 1380 (by decide +kernel) rfl
theorem u_ml_L_237 : Cond.methodLink RL 237 yL_guestOf ∈ x_U := x_ut 987 (by decide +kernel) rfl
theorem u_st_L_guestOf : Cond.static yL_guestOf ∈ x_U := x_ut 988 (by decide +kernel) rfl
theorem u_ml_L_239 : Cond.methodLink RL 239 yX7_guestOf ∈ x_U := x_ut 1382 (by decide +kernel) rfl
theorem u_co_X7_guestOf : Cond.code yX7_guestOf cX7_guestOf 3 (some .int) ∈ x_U := x_ut 1385 (by decide +kernel) rfl
theorem u_in_X7_guestOf : Cond.instanceMethod yX7_guestOf ∈ x_U := x_ut 1383 (by decide +kernel) rfl
theorem u_se_X7_guestOf : Cond.selects RX7 yX7_guestOf yX7_guestOf ∈ x_U := x_ut 1384 (by decide +kernel) rfl
theorem u_ml_L_240 : Cond.methodLink RL 240 yL_ticksOf ∈ x_U := x_ut 994 (by decide +kernel) rfl
theorem u_st_L_ticksOf : Cond.static yL_ticksOf ∈ x_U := x_ut 995 (by decide +kernel) rfl
theorem u_ml_L_242 : Cond.methodLink RL 242 yX7_ticksOf ∈ x_U := x_ut 1390 (by decide +kernel) rfl
theorem u_co_X7_ticksOf : Cond.code yX7_ticksOf cX7_ticksOf 3 (some .int) ∈ x_U := x_ut 1393 (by decide +kernel) rfl
theorem u_in_X7_ticksOf : Cond.instanceMethod yX7_ticksOf ∈ x_U := x_ut 1391 (by decide +kernel) rfl
theorem u_se_X7_ticksOf : Cond.selects RX7 yX7_ticksOf yX7_ticksOf ∈ x_U := x_ut 1392 (by decide +kernel) rfl
theorem u_ml_L_243 : Cond.methodLink RL 243 yL_reservedFor ∈ x_U := x_ut 1001 (by decide +kernel) rfl
theorem u_st_L_reservedFor : Cond.static yL_reservedFor ∈ x_U := x_ut 1002 (by decide +kernel) rfl
theorem u_ml_L_245 : Cond.methodLink RL 245 yX7_reservedFor ∈ x_U := x_ut 1398 (by decide +kernel) rfl
theorem u_co_X7_reservedFor : Cond.code yX7_reservedFor cX7_reservedFor 3 (some .int) ∈ x_U := x_ut 1401 (by decide +kernel) rfl
theorem u_in_X7_reservedFor : Cond.instanceMethod yX7_reservedFor ∈ x_U := x_ut 1399 (by decide +kernel) rfl
theorem u_se_X7_reservedFor : Cond.selects RX7 yX7_reservedFor yX7_reservedFor ∈ x_U := x_ut 1400 (by decide +kernel) rfl
theorem u_ml_L_246 : Cond.methodLink RL 246 yL_hasGhost ∈ x_U := x_ut 1008 (by decide +kernel) rfl
theorem u_st_L_hasGhost : Cond.static yL_hasGhost ∈ x_U := x_ut 1009 (by decide +kernel) rfl
theorem u_ml_L_248 : Cond.methodLink RL 248 yX7_hasGhost ∈ x_U := x_ut 1402 (by decide +kernel) rfl
theorem u_co_X7_hasGhost : Cond.code yX7_hasGhost cX7_hasGhost 2 (some .boolean) ∈ x_U := x_ut 1405 (by decide +kernel) rfl
theorem u_in_X7_hasGhost : Cond.instanceMethod yX7_hasGhost ∈ x_U := x_ut 1403 (by decide +kernel) rfl
theorem u_se_X7_hasGhost : Cond.selects RX7 yX7_hasGhost yX7_hasGhost ∈ x_U := x_ut 1404 (by decide +kernel) rfl
theorem u_ml_L_249 : Cond.methodLink RL 249 yL_roomFor ∈ x_U := x_ut 1015 (by decide +kernel) rfl
theorem u_st_L_roomFor : Cond.static yL_roomFor ∈ x_U := x_ut 1016 (by decide +kernel) rfl
theorem u_ml_L_251 : Cond.methodLink RL 251 yX7_roomFor ∈ x_U := x_ut 1406 (by decide +kernel) rfl
theorem u_co_X7_roomFor : Cond.code yX7_roomFor cX7_roomFor 3 (some .int) ∈ x_U := x_ut 1409 (by decide +kernel) rfl
theorem u_in_X7_roomFor : Cond.instanceMethod yX7_roomFor ∈ x_U := x_ut 1407 (by decide +kernel) rfl
theorem u_se_X7_roomFor : Cond.selects RX7 yX7_roomFor yX7_roomFor ∈ x_U := x_ut 1408 (by decide +kernel) rfl
theorem u_ml_L_252 : Cond.methodLink RL 252 yX6_leasedByRooms ∈ x_U := x_ut 474 (by decide +kernel) rfl
theorem u_co_X6_leasedByRooms : Cond.code yX6_leasedByRooms cX6_leasedByRooms 1 (some .int) ∈ x_U := x_ut 477 (by decide +kernel) rfl
theorem u_in_X6_leasedByRooms : Cond.instanceMethod yX6_leasedByRooms ∈ x_U := x_ut 475 (by decide +kernel) rfl
theorem u_se_X6_leasedByRooms : Cond.selects RX6 yX6_leasedByRooms yX6_leasedByRooms ∈ x_U := x_ut 476 (by decide +kernel) rfl
theorem u_ml_L_255 : Cond.methodLink RL 255 yX7_leasedByRooms ∈ x_U := x_ut 1410 (by decide +kernel) rfl
theorem u_co_X7_leasedByRooms : Cond.code yX7_leasedByRooms cX7_leasedByRooms 1 (some .int) ∈ x_U := x_ut 1413 (by decide +kernel) rfl
theorem u_in_X7_leasedByRooms : Cond.instanceMethod yX7_leasedByRooms ∈ x_U := x_ut 1411 (by decide +kernel) rfl
theorem u_se_X7_leasedByRooms : Cond.selects RX7 yX7_leasedByRooms yX7_leasedByRooms ∈ x_U := x_ut 1412 (by decide +kernel) rfl
theorem u_ml_L_256 : Cond.methodLink RL 256 yX6_leasedByGuests ∈ x_U := x_ut 482 (by decide +kernel) rfl
theorem u_co_X6_leasedByGuests : Cond.code yX6_leasedByGuests cX6_leasedByGuests 1 (some .int) ∈ x_U := x_ut 485 (by decide +kernel) rfl
theorem u_in_X6_leasedByGuests : Cond.instanceMethod yX6_leasedByGuests ∈ x_U := x_ut 483 (by decide +kernel) rfl
theorem u_se_X6_leasedByGuests : Cond.selects RX6 yX6_leasedByGuests yX6_leasedByGuests ∈ x_U := x_ut 484 (by decide +kernel) rfl
theorem u_ml_L_259 : Cond.methodLink RL 259 yX7_leasedByGuests ∈ x_U := x_ut 1418 (by decide +kernel) rfl
theorem u_co_X7_leasedByGuests : Cond.code yX7_leasedByGuests cX7_leasedByGuests 1 (some .int) ∈ x_U := x_ut 1421 (by decide +kernel) rfl
theorem u_in_X7_leasedByGuests : Cond.instanceMethod yX7_leasedByGuests ∈ x_U := x_ut 1419 (by decide +kernel) rfl
theorem u_se_X7_leasedByGuests : Cond.selects RX7 yX7_leasedByGuests yX7_leasedByGuests ∈ x_U := x_ut 1420 (by decide +kernel) rfl
theorem u_ml_L_260 : Cond.methodLink RL 260 yX6_freeRooms ∈ x_U := x_ut 490 (by decide +kernel) rfl
theorem u_co_X6_freeRooms : Cond.code yX6_freeRooms cX6_freeRooms 1 (some .int) ∈ x_U := x_ut 493 (by decide +kernel) rfl
theorem u_in_X6_freeRooms : Cond.instanceMethod yX6_freeRooms ∈ x_U := x_ut 491 (by decide +kernel) rfl
theorem u_se_X6_freeRooms : Cond.selects RX6 yX6_freeRooms yX6_freeRooms ∈ x_U := x_ut 492 (by decide +kernel) rfl
theorem u_ml_L_263 : Cond.methodLink RL 263 yX7_freeRooms ∈ x_U := x_ut 1422 (by decide +kernel) rfl
theorem u_co_X7_freeRooms : Cond.code yX7_freeRooms cX7_freeRooms 1 (some .int) ∈ x_U := x_ut 1425 (by decide +kernel) rfl
theorem u_in_X7_freeRooms : Cond.instanceMethod yX7_freeRooms ∈ x_U := x_ut 1423 (by decide +kernel) rfl
theorem u_se_X7_freeRooms : Cond.selects RX7 yX7_freeRooms yX7_freeRooms ∈ x_U := x_ut 1424 (by decide +kernel) rfl
theorem u_ml_L_264 : Cond.methodLink RL 264 yL_nextFreeByRooms ∈ x_U := x_ut 1022 (by decide +kernel) rfl
theorem u_st_L_nextFreeByRooms : Cond.static yL_nextFreeByRooms ∈ x_U := x_ut 1023 (by decide +kernel) rfl
theorem u_ml_L_266 : Cond.methodLink RL 266 yX7_nextFreeByRooms ∈ x_U := x_ut 1426 (by decide +kernel) rfl
theorem u_co_X7_nextFreeByRooms : Cond.code yX7_nextFreeByRooms cX7_nextFreeByRooms 1 (some .int) ∈ x_U := x_ut 1429 (by decide +kernel) rfl
theorem u_in_X7_nextFreeByRooms : Cond.instanceMethod yX7_nextFreeByRooms ∈ x_U := x_ut 1427 (by decide +kernel) rfl
theorem u_se_X7_nextFreeByRooms : Cond.selects RX7 yX7_nextFreeByRooms yX7_nextFreeByRooms ∈ x_U := x_ut 1428 (by decide +kernel) rfl
theorem u_ml_L_267 : Cond.methodLink RL 267 yL_nextFreeByTicks ∈ x_U := x_ut 1029 (by decide +kernel) rfl
theorem u_st_L_nextFreeByTicks : Cond.static yL_nextFreeByTicks ∈ x_U := x_ut 1030 (by decide +kernel) rfl
theorem u_ml_L_269 : Cond.methodLink RL 269 yX7_nextFreeByTicks ∈ x_U := x_ut 1434 (by decide +kernel) rfl
theorem u_co_X7_nextFreeByTicks : Cond.code yX7_nextFreeByTicks cX7_nextFreeByTicks 1 (some .int) ∈ x_U := x_ut 1437 (by decide +kernel) rfl
theorem u_in_X7_nextFreeByTicks : Cond.instanceMethod yX7_nextFreeByTicks ∈ x_U := x_ut 1435 (by decide +kernel) rfl
theorem u_se_X7_nextFreeByTicks : Cond.selects RX7 yX7_nextFreeByTicks yX7_nextFreeByTicks ∈ x_U := x_ut 1436 (by decide +kernel) rfl
theorem u_ml_L_270 : Cond.methodLink RL 270 yX6_leaseTicks ∈ x_U := x_ut 494 (by decide +kernel) rfl
theorem u_co_X6_leaseTicks : Cond.code yX6_leaseTicks cX6_leaseTicks 1 (some .int) ∈ x_U := x_ut 497 (by decide +kernel) rfl
theorem u_in_X6_leaseTicks : Cond.instanceMethod yX6_leaseTicks ∈ x_U := x_ut 495 (by decide +kernel) rfl
theorem u_se_X6_leaseTicks : Cond.selects RX6 yX6_leaseTicks yX6_leaseTicks ∈ x_U := x_ut 496 (by decide +kernel) rfl
theorem u_ml_L_273 : Cond.methodLink RL 273 yX7_leaseTicks ∈ x_U := x_ut 1438 (by decide +kernel) rfl
theorem u_co_X7_leaseTicks : Cond.code yX7_leaseTicks cX7_leaseTicks 1 (some .int) ∈ x_U := x_ut 1441 (by decide +kernel) rfl
theorem u_in_X7_leaseTicks : Cond.instanceMethod yX7_leaseTicks ∈ x_U := x_ut 1439 (by decide +kernel) rfl
theorem u_se_X7_leaseTicks : Cond.selects RX7 yX7_leaseTicks yX7_leaseTicks ∈ x_U := x_ut 1440 (by decide +kernel) rfl
theorem u_ml_L_274 : Cond.methodLink RL 274 yX6_holdTicks ∈ x_U := x_ut 498 (by decide +kernel) rfl
theorem u_co_X6_holdTicks : Cond.code yX6_holdTicks cX6_holdTicks 1 (some .int) ∈ x_U := x_ut 501 (by decide +kernel) rfl
theorem u_in_X6_holdTicks : Cond.instanceMethod yX6_holdTicks ∈ x_U := x_ut 499 (by decide +kernel) rfl
theorem u_se_X6_holdTicks : Cond.selects RX6 yX6_holdTicks yX6_holdTicks ∈ x_U := x_ut 500 (by decide +kernel) rfl
theorem u_ml_L_277 : Cond.methodLink RL 277 yX7_holdTicks ∈ x_U := x_ut 1446 (by decide +kernel) rfl
theorem u_co_X7_holdTicks : Cond.code yX7_holdTicks cX7_holdTicks 1 (some .int) ∈ x_U := x_ut 1449 (by decide +kernel) rfl
theorem u_in_X7_holdTicks : Cond.instanceMethod yX7_holdTicks ∈ x_U := x_ut 1447 (by decide +kernel) rfl
theorem u_se_X7_holdTicks : Cond.selects RX7 yX7_holdTicks yX7_holdTicks ∈ x_U := x_ut 1448 (by decide +kernel) rfl
theorem u_ml_L_278 : Cond.methodLink RL 278 yX6_shutTicks ∈ x_U := x_ut 502 (by decide +kernel) rfl
theorem u_co_X6_shutTicks : Cond.code yX6_shutTicks cX6_shutTicks 1 (some .int) ∈ x_U := x_ut 505 (by decide +kernel) rfl
theorem u_in_X6_shutTicks : Cond.instanceMethod yX6_shutTicks ∈ x_U := x_ut 503 (by decide +kernel) rfl
theorem u_se_X6_shutTicks : Cond.selects RX6 yX6_shutTicks yX6_shutTicks ∈ x_U := x_ut 504 (by decide +kernel) rfl
theorem u_ml_L_281 : Cond.methodLink RL 281 yX7_shutTicks ∈ x_U := x_ut 1450 (by decide +kernel) rfl
theorem u_co_X7_shutTicks : Cond.code yX7_shutTicks cX7_shutTicks 1 (some .int) ∈ x_U := x_ut 1453 (by decide +kernel) rfl
theorem u_in_X7_shutTicks : Cond.instanceMethod yX7_shutTicks ∈ x_U := x_ut 1451 (by decide +kernel) rfl
theorem u_se_X7_shutTicks : Cond.selects RX7 yX7_shutTicks yX7_shutTicks ∈ x_U := x_ut 1452 (by decide +kernel) rfl
theorem u_ml_L_282 : Cond.methodLink RL 282 yX6_messages ∈ x_U := x_ut 506 (by decide +kernel) rfl
theorem u_co_X6_messages : Cond.code yX6_messages cX6_messages 1 (some .int) ∈ x_U := x_ut 509 (by decide +kernel) rfl
theorem u_in_X6_messages : Cond.instanceMethod yX6_messages ∈ x_U := x_ut 507 (by decide +kernel) rfl
theorem u_se_X6_messages : Cond.selects RX6 yX6_messages yX6_messages ∈ x_U := x_ut 508 (by decide +kernel) rfl
theorem u_ml_L_285 : Cond.methodLink RL 285 yX7_messages ∈ x_U := x_ut 1454 (by decide +kernel) rfl
theorem u_co_X7_messages : Cond.code yX7_messages cX7_messages 1 (some .int) ∈ x_U := x_ut 1457 (by decide +kernel) rfl
theorem u_in_X7_messages : Cond.instanceMethod yX7_messages ∈ x_U := x_ut 1455 (by decide +kernel) rfl
theorem u_se_X7_messages : Cond.selects RX7 yX7_messages yX7_messages ∈ x_U := x_ut 1456 (by decide +kernel) rfl
theorem u_ml_L_286 : Cond.methodLink RL 286 yL_kindAt ∈ x_U := x_ut 1036 (by decide +kernel) rfl
theorem u_st_L_kindAt : Cond.static yL_kindAt ∈ x_U := x_ut 1037 (by decide +kernel) rfl
theorem u_ml_L_288 : Cond.methodLink RL 288 yX7_kindAt ∈ x_U := x_ut 1458 (by decide +kernel) rfl
theorem u_co_X7_kindAt : Cond.code yX7_kindAt cX7_kindAt 2 (some .int) ∈ x_U := x_ut 1461 (by decide +kernel) rfl
theorem u_in_X7_kindAt : Cond.instanceMethod yX7_kindAt ∈ x_U := x_ut 1459 (by decide +kernel) rfl
theorem u_se_X7_kindAt : Cond.selects RX7 yX7_kindAt yX7_kindAt ∈ x_U := x_ut 1460 (by decide +kernel) rfl
theorem u_ml_L_289 : Cond.methodLink RL 289 yL_guestAt ∈ x_U := x_ut 1043 (by decide +kernel) rfl
theorem u_st_L_guestAt : Cond.static yL_guestAt ∈ x_U := x_ut 1044 (by decide +kernel) rfl
theorem u_ml_L_291 : Cond.methodLink RL 291 yX7_guestAt ∈ x_U := x_ut 1462 (by decide +kernel) rfl
theorem u_co_X7_guestAt : Cond.code yX7_guestAt cX7_guestAt 2 (some .int) ∈ x_U := x_ut 1465 (by decide +kernel) rfl
theorem u_in_X7_guestAt : Cond.instanceMethod yX7_guestAt ∈ x_U := x_ut 1463 (by decide +kernel) rfl
theorem u_se_X7_guestAt : Cond.selects RX7 yX7_guestAt yX7_guestAt ∈ x_U := x_ut 1464 (by decide +kernel) rfl
theorem u_ml_L_292 : Cond.methodLink RL 292 yL_roomAt ∈ x_U := x_ut 1050 (by decide +kernel) rfl
theorem u_st_L_roomAt : Cond.static yL_roomAt ∈ x_U := x_ut 1051 (by decide +kernel) rfl
theorem u_ml_L_294 : Cond.methodLink RL 294 yX7_roomAt ∈ x_U := x_ut 1466 (by decide +kernel) rfl
theorem u_co_X7_roomAt : Cond.code yX7_roomAt cX7_roomAt 3 (some .int) ∈ x_U := x_ut 1469 (by decide +kernel) rfl
theorem u_in_X7_roomAt : Cond.instanceMethod yX7_roomAt ∈ x_U := x_ut 1467 (by decide +kernel) rfl
theorem u_se_X7_roomAt : Cond.selects RX7 yX7_roomAt yX7_roomAt ∈ x_U := x_ut 1468 (by decide +kernel) rfl
theorem u_ml_L_295 : Cond.methodLink RL 295 yX6_time ∈ x_U := x_ut 510 (by decide +kernel) rfl
theorem u_co_X6_time : Cond.code yX6_time cX6_time 1 (some .int) ∈ x_U := x_ut 513 (by decide +kernel) rfl
theorem u_in_X6_time : Cond.instanceMethod yX6_time ∈ x_U := x_ut 511 (by decide +kernel) rfl
theorem u_se_X6_time : Cond.selects RX6 yX6_time yX6_time ∈ x_U := x_ut 512 (by decide +kernel) rfl
theorem u_ml_L_298 : Cond.methodLink RL 298 yX7_time ∈ x_U := x_ut 1470 (by decide +kernel) rfl
theorem u_co_X7_time : Cond.code yX7_time cX7_time 1 (some .int) ∈ x_U := x_ut 1473 (by decide +kernel) rfl
theorem u_in_X7_time : Cond.instanceMethod yX7_time ∈ x_U := x_ut 1471 (by decide +kernel) rfl
theorem u_se_X7_time : Cond.selects RX7 yX7_time yX7_time ∈ x_U := x_ut 1472 (by decide +kernel) rfl
theorem u_ml_L_299 : Cond.methodLink RL 299 yL_sent ∈ x_U := x_ut 1057 (by decide +kernel) rfl
theorem u_st_L_sent : Cond.static yL_sent ∈ x_U := x_ut 1058 (by decide +kernel) rfl
theorem u_ml_L_301 : Cond.methodLink RL 301 yX7_sent ∈ x_U := x_ut 1474 (by decide +kernel) rfl
theorem u_co_X7_sent : Cond.code yX7_sent cX7_sent 2 (some .int) ∈ x_U := x_ut 1477 (by decide +kernel) rfl
theorem u_in_X7_sent : Cond.instanceMethod yX7_sent ∈ x_U := x_ut 1475 (by decide +kernel) rfl
theorem u_se_X7_sent : Cond.selects RX7 yX7_sent yX7_sent ∈ x_U := x_ut 1476 (by decide +kernel) rfl
theorem u_ml_L_302 : Cond.methodLink RL 302 yX6_lost ∈ x_U := x_ut 514 (by decide +kernel) rfl
theorem u_co_X6_lost : Cond.code yX6_lost cX6_lost 1 (some .int) ∈ x_U := x_ut 517 (by decide +kernel) rfl
theorem u_in_X6_lost : Cond.instanceMethod yX6_lost ∈ x_U := x_ut 515 (by decide +kernel) rfl
theorem u_se_X6_lost : Cond.selects RX6 yX6_lost yX6_lost ∈ x_U := x_ut 516 (by decide +kernel) rfl
theorem u_ml_L_305 : Cond.methodLink RL 305 yX7_lost ∈ x_U := x_ut 1479 (by decide +kernel) rfl
theorem u_co_X7_lost : Cond.code yX7_lost cX7_lost 1 (some .int) ∈ x_U := x_ut 1482 (by decide +kernel) rfl
theorem u_in_X7_lost : Cond.instanceMethod yX7_lost ∈ x_U := x_ut 1480 (by decide +kernel) rfl
theorem u_se_X7_lost : Cond.selects RX7 yX7_lost yX7_lost ∈ x_U := x_ut 1481 (by decide +kernel) rfl
theorem u_ml_L_306 : Cond.methodLink RL 306 yX6_delivered ∈ x_U := x_ut 518 (by decide +kernel) rfl
theorem u_co_X6_delivered : Cond.code yX6_delivered cX6_delivered 1 (some .int) ∈ x_U := x_ut 521 (by decide +kernel) rfl
theorem u_in_X6_delivered : Cond.instanceMethod yX6_delivered ∈ x_U := x_ut 519 (by decide +kernel) rfl
theorem u_se_X6_delivered : Cond.selects RX6 yX6_delivered yX6_delivered ∈ x_U := x_ut 520 (by decide +kernel) rfl
theorem u_ml_L_309 : Cond.methodLink RL 309 yX7_delivered ∈ x_U := x_ut 1483 (by decide +kernel) rfl
theorem u_co_X7_delivered : Cond.code yX7_delivered cX7_delivered 1 (some .int) ∈ x_U := x_ut 1486 (by decide +kernel) rfl
theorem u_in_X7_delivered : Cond.instanceMethod yX7_delivered ∈ x_U := x_ut 1484 (by decide +kernel) rfl
theorem u_se_X7_delivered : Cond.selects RX7 yX7_delivered yX7_delivered ∈ x_U := x_ut 1485 (by decide +kernel) rfl
theorem u_ml_L_310 : Cond.methodLink RL 310 yX6_leases ∈ x_U := x_ut 522 (by decide +kernel) rfl
theorem u_co_X6_leases : Cond.code yX6_leases cX6_leases 1 (some .int) ∈ x_U := x_ut 525 (by decide +kernel) rfl
theorem u_in_X6_leases : Cond.instanceMethod yX6_leases ∈ x_U := x_ut 523 (by decide +kernel) rfl
theorem u_se_X6_leases : Cond.selects RX6 yX6_leases yX6_leases ∈ x_U := x_ut 524 (by decide +kernel) rfl
theorem u_ml_L_313 : Cond.methodLink RL 313 yX7_leases ∈ x_U := x_ut 1487 (by decide +kernel) rfl
theorem u_co_X7_leases : Cond.code yX7_leases cX7_leases 1 (some .int) ∈ x_U := x_ut 1490 (by decide +kernel) rfl
theorem u_in_X7_leases : Cond.instanceMethod yX7_leases ∈ x_U := x_ut 1488 (by decide +kernel) rfl
theorem u_se_X7_leases : Cond.selects RX7 yX7_leases yX7_leases ∈ x_U := x_ut 1489 (by decide +kernel) rfl
theorem u_ml_L_314 : Cond.methodLink RL 314 yX6_evicted ∈ x_U := x_ut 526 (by decide +kernel) rfl
theorem u_co_X6_evicted : Cond.code yX6_evicted cX6_evicted 1 (some .int) ∈ x_U := x_ut 529 (by decide +kernel) rfl
theorem u_in_X6_evicted : Cond.instanceMethod yX6_evicted ∈ x_U := x_ut 527 (by decide +kernel) rfl
theorem u_se_X6_evicted : Cond.selects RX6 yX6_evicted yX6_evicted ∈ x_U := x_ut 528 (by decide +kernel) rfl
theorem u_ml_L_317 : Cond.methodLink RL 317 yX7_evicted ∈ x_U := x_ut 1491 (by decide +kernel) rfl
theorem u_co_X7_evicted : Cond.code yX7_evicted cX7_evicted 1 (some .int) ∈ x_U := x_ut 1494 (by decide +kernel) rfl
theorem u_in_X7_evicted : Cond.instanceMethod yX7_evicted ∈ x_U := x_ut 1492 (by decide +kernel) rfl
theorem u_se_X7_evicted : Cond.selects RX7 yX7_evicted yX7_evicted ∈ x_U := x_ut 1493 (by decide +kernel) rfl
theorem u_ml_L_318 : Cond.methodLink RL 318 yX6_shutSoFar ∈ x_U := x_ut 530 (by decide +kernel) rfl
theorem u_co_X6_shutSoFar : Cond.code yX6_shutSoFar cX6_shutSoFar 1 (some .int) ∈ x_U := x_ut 533 (by decide +kernel) rfl
theorem u_in_X6_shutSoFar : Cond.instanceMethod yX6_shutSoFar ∈ x_U := x_ut 531 (by decide +kernel) rfl
theorem u_se_X6_shutSoFar : Cond.selects RX6 yX6_shutSoFar yX6_shutSoFar ∈ x_U := x_ut 532 (by decide +kernel) rfl
theorem u_ml_L_321 : Cond.methodLink RL 321 yX7_shutSoFar ∈ x_U := x_ut 1495 (by decide +kernel) rfl
theorem u_co_X7_shutSoFar : Cond.code yX7_shutSoFar cX7_shutSoFar 1 (some .int) ∈ x_U := x_ut 1498 (by decide +kernel) rfl
theorem u_in_X7_shutSoFar : Cond.instanceMethod yX7_shutSoFar ∈ x_U := x_ut 1496 (by decide +kernel) rfl
theorem u_se_X7_shutSoFar : Cond.selects RX7 yX7_shutSoFar yX7_shutSoFar ∈ x_U := x_ut 1497 (by decide +kernel) rfl
theorem u_ml_L_322 : Cond.methodLink RL 322 yX6_wouldDeliver ∈ x_U := x_ut 534 (by decide +kernel) rfl
theorem u_co_X6_wouldDeliver : Cond.code yX6_wouldDeliver cX6_wouldDeliver 1 (some .int) ∈ x_U := x_ut 537 (by decide +kernel) rfl
theorem u_in_X6_wouldDeliver : Cond.instanceMethod yX6_wouldDeliver ∈ x_U := x_ut 535 (by decide +kernel) rfl
theorem u_se_X6_wouldDeliver : Cond.selects RX6 yX6_wouldDeliver yX6_wouldDeliver ∈ x_U := x_ut 536 (by decide +kernel) rfl
theorem u_ml_L_325 : Cond.methodLink RL 325 yX7_wouldDeliver ∈ x_U := x_ut 1499 (by decide +kernel) rfl
theorem u_co_X7_wouldDeliver : Cond.code yX7_wouldDeliver cX7_wouldDeliver 1 (some .int) ∈ x_U := x_ut 1502 (by decide +kernel) rfl
theorem u_in_X7_wouldDeliver : Cond.instanceMethod yX7_wouldDeliver ∈ x_U := x_ut 1500 (by decide +kernel) rfl
theorem u_se_X7_wouldDeliver : Cond.selects RX7 yX7_wouldDeliver yX7_wouldDeliver ∈ x_U := x_ut 1501 (by decide +kernel) rfl
theorem u_ml_L_326 : Cond.methodLink RL 326 yX6_wouldHouse ∈ x_U := x_ut 543 (by decide +kernel) rfl
theorem u_co_X6_wouldHouse : Cond.code yX6_wouldHouse cX6_wouldHouse 1 (some .int) ∈ x_U := x_ut 546 (by decide +kernel) rfl
theorem u_in_X6_wouldHouse : Cond.instanceMethod yX6_wouldHouse ∈ x_U := x_ut 544 (by decide +kernel) rfl
theorem u_se_X6_wouldHouse : Cond.selects RX6 yX6_wouldHouse yX6_wouldHouse ∈ x_U := x_ut 545 (by decide +kernel) rfl
theorem u_ml_L_329 : Cond.methodLink RL 329 yX7_wouldHouse ∈ x_U := x_ut 1503 (by decide +kernel) rfl
theorem u_co_X7_wouldHouse : Cond.code yX7_wouldHouse cX7_wouldHouse 2 (some .int) ∈ x_U := x_ut 1506 (by decide +kernel) rfl
theorem u_in_X7_wouldHouse : Cond.instanceMethod yX7_wouldHouse ∈ x_U := x_ut 1504 (by decide +kernel) rfl
theorem u_se_X7_wouldHouse : Cond.selects RX7 yX7_wouldHouse yX7_wouldHouse ∈ x_U := x_ut 1505 (by decide +kernel) rfl
theorem u_ml_L_330 : Cond.methodLink RL 330 yX6_leasedShare ∈ x_U := x_ut 547 (by decide +kernel) rfl
theorem u_co_X6_leasedShare : Cond.code yX6_leasedShare cX6_leasedShare 1 (some .double) ∈ x_U := x_ut 550 (by decide +kernel) rfl
theorem u_in_X6_leasedShare : Cond.instanceMethod yX6_leasedShare ∈ x_U := x_ut 548 (by decide +kernel) rfl
theorem u_se_X6_leasedShare : Cond.selects RX6 yX6_leasedShare yX6_leasedShare ∈ x_U := x_ut 549 (by decide +kernel) rfl
theorem u_ml_L_334 : Cond.methodLink RL 334 yX7_leasedShare ∈ x_U := x_ut 1507 (by decide +kernel) rfl
theorem u_co_X7_leasedShare : Cond.code yX7_leasedShare cX7_leasedShare 1 (some .double) ∈ x_U := x_ut 1510 (by decide +kernel) rfl
theorem u_in_X7_leasedShare : Cond.instanceMethod yX7_leasedShare ∈ x_U := x_ut 1508 (by decide +kernel) rfl
theorem u_se_X7_leasedShare : Cond.selects RX7 yX7_leasedShare yX7_leasedShare ∈ x_U := x_ut 1509 (by decide +kernel) rfl
theorem u_ml_L_335 : Cond.methodLink RL 335 yX6_digest ∈ x_U := x_ut 552 (by decide +kernel) rfl
theorem u_co_X6_digest : Cond.code yX6_digest cX6_digest 3 (some .long) ∈ x_U := x_ut 555 (by decide +kernel) rfl
theorem u_in_X6_digest : Cond.instanceMethod yX6_digest ∈ x_U := x_ut 553 (by decide +kernel) rfl
theorem u_se_X6_digest : Cond.selects RX6 yX6_digest yX6_digest ∈ x_U := x_ut 554 (by decide +kernel) rfl
theorem u_ml_L_339 : Cond.methodLink RL 339 yX7_digest ∈ x_U := x_ut 1516 (by decide +kernel) rfl
theorem u_co_X7_digest : Cond.code yX7_digest cX7_digest 6 (some .long) ∈ x_U := x_ut 1519 (by decide +kernel) rfl
theorem u_in_X7_digest : Cond.instanceMethod yX7_digest ∈ x_U := x_ut 1517 (by decide +kernel) rfl
theorem u_se_X7_digest : Cond.selects RX7 yX7_digest yX7_digest ∈ x_U := x_ut 1518 (by decide +kernel) rfl
theorem hd_L_seek : yL_seek.cls ≠ "java/lang/invoke/MethodHandle" ∧ yL_seek.cls ≠ "java/lang/invoke/VarHandle" ∧ (parseMethodDescriptor yL_seek.desc).map (fun d => d.parameters.length) = some 3 := by decide +kernel
theorem g_L_137 : GoodIn x_U (wsV RL 137 RX7 yX7_seek (x_ws yX7_seek cX7_seek 3 (some .int))) := x_gV u_ml_L_137 u_in_X7_seek u_se_X7_seek u_ini_X7 u_co_X7_seek
theorem hd_X7_seek : yX7_seek.cls ≠ "java/lang/invoke/MethodHandle" ∧ yX7_seek.cls ≠ "java/lang/invoke/VarHandle" ∧ (parseMethodDescriptor yX7_seek.desc).map (fun d => d.parameters.length) = some 1 := by decide +kernel
theorem g_L_138 : GoodIn x_U (wsV RL 138 RX7 yX7_thrown (x_ws yX7_thrown cX7_thrown 1 (some .int))) := x_gV u_ml_L_138 u_in_X7_thrown u_se_X7_thrown u_ini_X7 u_co_X7_thrown
theorem hd_X7_thrown : yX7_thrown.cls ≠ "java/lang/invoke/MethodHandle" ∧ yX7_thrown.cls ≠ "java/lang/invoke/VarHandle" ∧ (parseMethodDescriptor yX7_thrown.desc).map (fun d => d.parameters.length) = some 0 := by decide +kernel
theorem hd_L_leave : yL_leave.cls ≠ "java/lang/invoke/MethodHandle" ∧ yL_leave.cls ≠ "java/lang/invoke/VarHandle" ∧ (parseMethodDescriptor yL_leave.desc).map (fun d => d.parameters.length) = some 3 := by decide +kernel
theorem g_L_143 : GoodIn x_U (wsV RL 143 RX7 yX7_leave (x_ws yX7_leave cX7_leave 2 (some .int))) := x_gV u_ml_L_143 u_in_X7_leave u_se_X7_leave u_ini_X7 u_co_X7_leave
theorem hd_X7_leave : yX7_leave.cls ≠ "java/lang/invoke/MethodHandle" ∧ yX7_leave.cls ≠ "java/lang/invoke/VarHandle" ∧ (parseMethodDescriptor yX7_leave.desc).map (fun d => d.parameters.length) = some 1 := by decide +kernel
theorem hd_L_giveUp : yL_giveUp.cls ≠ "java/lang/invoke/MethodHandle" ∧ yL_giveUp.cls ≠ "java/lang/invoke/VarHandle" ∧ (parseMethodDescriptor yL_giveUp.desc).map (fun d => d.parameters.length) = some 3 := by decide +kernel
theorem g_L_146 : GoodIn x_U (wsV RL 146 RX7 yX7_giveUp (x_ws yX7_giveUp cX7_giveUp 4 (some .int))) := x_gV u_ml_L_146 u_in_X7_giveUp u_se_X7_giveUp u_ini_X7 u_co_X7_giveUp
theorem hd_X7_giveUp : yX7_giveUp.cls ≠ "java/lang/invoke/MethodHandle" ∧ yX7_giveUp.cls ≠ "java/lang/invoke/VarHandle" ∧ (parseMethodDescriptor yX7_giveUp.desc).map (fun d => d.parameters.length) = some 1 := by decide +kernel
theorem hd_L_renew : yL_renew.cls ≠ "java/lang/invoke/MethodHandle" ∧ yL_renew.cls ≠ "java/lang/invoke/VarHandle" ∧ (parseMethodDescriptor yL_renew.desc).map (fun d => d.parameters.length) = some 3 := by decide +kernel
theorem g_L_149 : GoodIn x_U (wsV RL 149 RX7 yX7_renew (x_ws yX7_renew cX7_renew 2 (some .int))) := x_gV u_ml_L_149 u_in_X7_renew u_se_X7_renew u_ini_X7 u_co_X7_renew
theorem hd_X7_renew : yX7_renew.cls ≠ "java/lang/invoke/MethodHandle" ∧ yX7_renew.cls ≠ "java/lang/invoke/VarHandle" ∧ (parseMethodDescriptor yX7_renew.desc).map (fun d => d.parameters.length) = some 1 := by decide +kernel
theorem hd_L_reserve : yL_reserve.cls ≠ "java/lang/invoke/MethodHandle" ∧ yL_reserve.cls ≠ "java/lang/invoke/VarHandle" ∧ (parseMethodDescriptor yL_reserve.desc).map (fun d => d.parameters.length) = some 3 := by decide +kernel
theorem g_L_153 : GoodIn x_U (wsV RL 153 RX7 yX7_reserve (x_ws yX7_reserve cX7_reserve 5 none)) := x_gV u_ml_L_153 u_in_X7_reserve u_se_X7_reserve u_ini_X7 u_co_X7_reserve
theorem hd_X7_reserve : yX7_reserve.cls ≠ "java/lang/invoke/MethodHandle" ∧ yX7_reserve.cls ≠ "java/lang/invoke/VarHandle" ∧ (parseMethodDescriptor yX7_reserve.desc).map (fun d => d.parameters.length) = some 2 := by decide +kernel
theorem hd_L_unreserve : yL_unreserve.cls ≠ "java/lang/invoke/MethodHandle" ∧ yL_unreserve.cls ≠ "java/lang/invoke/VarHandle" ∧ (parseMethodDescriptor yL_unreserve.desc).map (fun d => d.parameters.length) = some 3 := by decide +kernel
theorem g_L_156 : GoodIn x_U (wsV RL 156 RX7 yX7_unreserve (x_ws yX7_unreserve cX7_unreserve 4 (some .int))) := x_gV u_ml_L_156 u_in_X7_unreserve u_se_X7_unreserve u_ini_X7 u_co_X7_unreserve
theorem hd_X7_unreserve : yX7_unreserve.cls ≠ "java/lang/invoke/MethodHandle" ∧ yX7_unreserve.cls ≠ "java/lang/invoke/VarHandle" ∧ (parseMethodDescriptor yX7_unreserve.desc).map (fun d => d.parameters.length) = some 1 := by decide +kernel
theorem hd_L_turnGhost : yL_turnGhost.cls ≠ "java/lang/invoke/MethodHandle" ∧ yL_turnGhost.cls ≠ "java/lang/invoke/VarHandle" ∧ (parseMethodDescriptor yL_turnGhost.desc).map (fun d => d.parameters.length) = some 3 := by decide +kernel
theorem g_L_159 : GoodIn x_U (wsV RL 159 RX7 yX7_turnGhost (x_ws yX7_turnGhost cX7_turnGhost 2 (some .boolean))) := x_gV u_ml_L_159 u_in_X7_turnGhost u_se_X7_turnGhost u_ini_X7 u_co_X7_turnGhost
theorem hd_X7_turnGhost : yX7_turnGhost.cls ≠ "java/lang/invoke/MethodHandle" ∧ yX7_turnGhost.cls ≠ "java/lang/invoke/VarHandle" ∧ (parseMethodDescriptor yX7_turnGhost.desc).map (fun d => d.parameters.length) = some 1 := by decide +kernel
theorem hd_L_changeLease : yL_changeLease.cls ≠ "java/lang/invoke/MethodHandle" ∧ yL_changeLease.cls ≠ "java/lang/invoke/VarHandle" ∧ (parseMethodDescriptor yL_changeLease.desc).map (fun d => d.parameters.length) = some 3 := by decide +kernel
theorem g_L_162 : GoodIn x_U (wsV RL 162 RX7 yX7_changeLease (x_ws yX7_changeLease cX7_changeLease 2 (some .int))) := x_gV u_ml_L_162 u_in_X7_changeLease u_se_X7_changeLease u_ini_X7 u_co_X7_changeLease
theorem hd_X7_changeLease : yX7_changeLease.cls ≠ "java/lang/invoke/MethodHandle" ∧ yX7_changeLease.cls ≠ "java/lang/invoke/VarHandle" ∧ (parseMethodDescriptor yX7_changeLease.desc).map (fun d => d.parameters.length) = some 1 := by decide +kernel
theorem hd_L_changeHold : yL_changeHold.cls ≠ "java/lang/invoke/MethodHandle" ∧ yL_changeHold.cls ≠ "java/lang/invoke/VarHandle" ∧ (parseMethodDescriptor yL_changeHold.desc).map (fun d => d.parameters.length) = some 3 := by decide +kernel
theorem g_L_165 : GoodIn x_U (wsV RL 165 RX7 yX7_changeHold (x_ws yX7_changeHold cX7_changeHold 2 (some .int))) := x_gV u_ml_L_165 u_in_X7_changeHold u_se_X7_changeHold u_ini_X7 u_co_X7_changeHold
theorem hd_X7_changeHold : yX7_changeHold.cls ≠ "java/lang/invoke/MethodHandle" ∧ yX7_changeHold.cls ≠ "java/lang/invoke/VarHandle" ∧ (parseMethodDescriptor yX7_changeHold.desc).map (fun d => d.parameters.length) = some 1 := by decide +kernel
theorem hd_L_changeShut : yL_changeShut.cls ≠ "java/lang/invoke/MethodHandle" ∧ yL_changeShut.cls ≠ "java/lang/invoke/VarHandle" ∧ (parseMethodDescriptor yL_changeShut.desc).map (fun d => d.parameters.length) = some 3 := by decide +kernel
theorem g_L_168 : GoodIn x_U (wsV RL 168 RX7 yX7_changeShut (x_ws yX7_changeShut cX7_changeShut 2 (some .int))) := x_gV u_ml_L_168 u_in_X7_changeShut u_se_X7_changeShut u_ini_X7 u_co_X7_changeShut
theorem hd_X7_changeShut : yX7_changeShut.cls ≠ "java/lang/invoke/MethodHandle" ∧ yX7_changeShut.cls ≠ "java/lang/invoke/VarHandle" ∧ (parseMethodDescriptor yX7_changeShut.desc).map (fun d => d.parameters.length) = some 1 := by decide +kernel
theorem hd_L_deliver : yL_deliver.cls ≠ "java/lang/invoke/MethodHandle" ∧ yL_deliver.cls ≠ "java/lang/invoke/VarHandle" ∧ (parseMethodDescriptor yL_deliver.desc).map (fun d => d.parameters.length) = some 3 := by decide +kernel
theorem g_L_171 : GoodIn x_U (wsV RL 171 RX7 yX7_deliver (x_ws yX7_deliver cX7_deliver 2 (some .int))) := x_gV u_ml_L_171 u_in_X7_deliver u_se_X7_deliver u_ini_X7 u_co_X7_deliver
theorem hd_X7_deliver : yX7_deliver.cls ≠ "java/lang/invoke/MethodHandle" ∧ yX7_deliver.cls ≠ "java/lang/invoke/VarHandle" ∧ (parseMethodDescriptor yX7_deliver.desc).map (fun d => d.parameters.length) = some 1 := by decide +kernel
theorem hd_L_lose : yL_lose.cls ≠ "java/lang/invoke/MethodHandle" ∧ yL_lose.cls ≠ "java/lang/invoke/VarHandle" ∧ (parseMethodDescriptor yL_lose.desc).map (fun d => d.parameters.length) = some 3 := by decide +kernel
theorem g_L_174 : GoodIn x_U (wsV RL 174 RX7 yX7_lose (x_ws yX7_lose cX7_lose 2 (some .int))) := x_gV u_ml_L_174 u_in_X7_lose u_se_X7_lose u_ini_X7 u_co_X7_lose
theorem hd_X7_lose : yX7_lose.cls ≠ "java/lang/invoke/MethodHandle" ∧ yX7_lose.cls ≠ "java/lang/invoke/VarHandle" ∧ (parseMethodDescriptor yX7_lose.desc).map (fun d => d.parameters.length) = some 1 := by decide +kernel
theorem g_L_175 : GoodIn x_U (wsV RL 175 RX6 yX6_deliverAll (x_ws yX6_deliverAll cX6_deliverAll 1 (some .int))) := x_gV u_ml_L_175 u_in_X6_deliverAll u_se_X6_deliverAll u_ini_X6 u_co_X6_deliverAll
theorem hd_X6_deliverAll : yX6_deliverAll.cls ≠ "java/lang/invoke/MethodHandle" ∧ yX6_deliverAll.cls ≠ "java/lang/invoke/VarHandle" ∧ (parseMethodDescriptor yX6_deliverAll.desc).map (fun d => d.parameters.length) = some 0 := by decide +kernel
theorem g_L_178 : GoodIn x_U (wsV RL 178 RX7 yX7_deliverAll (x_ws yX7_deliverAll cX7_deliverAll 1 (some .int))) := x_gV u_ml_L_178 u_in_X7_deliverAll u_se_X7_deliverAll u_ini_X7 u_co_X7_deliverAll
theorem hd_X7_deliverAll : yX7_deliverAll.cls ≠ "java/lang/invoke/MethodHandle" ∧ yX7_deliverAll.cls ≠ "java/lang/invoke/VarHandle" ∧ (parseMethodDescriptor yX7_deliverAll.desc).map (fun d => d.parameters.length) = some 0 := by decide +kernel
theorem hd_L_tick : yL_tick.cls ≠ "java/lang/invoke/MethodHandle" ∧ yL_tick.cls ≠ "java/lang/invoke/VarHandle" ∧ (parseMethodDescriptor yL_tick.desc).map (fun d => d.parameters.length) = some 3 := by decide +kernel
theorem g_L_181 : GoodIn x_U (wsV RL 181 RX7 yX7_tick (x_ws yX7_tick cX7_tick 2 (some .int))) := x_gV u_ml_L_181 u_in_X7_tick u_se_X7_tick u_ini_X7 u_co_X7_tick
theorem hd_X7_tick : yX7_tick.cls ≠ "java/lang/invoke/MethodHandle" ∧ yX7_tick.cls ≠ "java/lang/invoke/VarHandle" ∧ (parseMethodDescriptor yX7_tick.desc).map (fun d => d.parameters.length) = some 1 := by decide +kernel
theorem hd_L_append : yL_append.cls ≠ "java/lang/invoke/MethodHandle" ∧ yL_append.cls ≠ "java/lang/invoke/VarHandle" ∧ (parseMethodDescriptor yL_append.desc).map (fun d => d.parameters.length) = some 3 := by decide +kernel
theorem g_L_184 : GoodIn x_U (wsV RL 184 RX7 yX7_append (x_ws yX7_append cX7_append 2 (some .int))) := x_gV u_ml_L_184 u_in_X7_append u_se_X7_append u_ini_X7 u_co_X7_append
theorem hd_X7_append : yX7_append.cls ≠ "java/lang/invoke/MethodHandle" ∧ yX7_append.cls ≠ "java/lang/invoke/VarHandle" ∧ (parseMethodDescriptor yX7_append.desc).map (fun d => d.parameters.length) = some 1 := by decide +kernel
theorem g_L_185 : GoodIn x_U (wsV RL 185 RX6 yX6_clearBuffer (x_ws yX6_clearBuffer cX6_clearBuffer 2 (some .int))) := x_gV u_ml_L_185 u_in_X6_clearBuffer u_se_X6_clearBuffer u_ini_X6 u_co_X6_clearBuffer
theorem hd_X6_clearBuffer : yX6_clearBuffer.cls ≠ "java/lang/invoke/MethodHandle" ∧ yX6_clearBuffer.cls ≠ "java/lang/invoke/VarHandle" ∧ (parseMethodDescriptor yX6_clearBuffer.desc).map (fun d => d.parameters.length) = some 0 := by decide +kernel
theorem g_L_188 : GoodIn x_U (wsV RL 188 RX7 yX7_clearBuffer (x_ws yX7_clearBuffer cX7_clearBuffer 2 (some .int))) := x_gV u_ml_L_188 u_in_X7_clearBuffer u_se_X7_clearBuffer u_ini_X7 u_co_X7_clearBuffer
theorem hd_X7_clearBuffer : yX7_clearBuffer.cls ≠ "java/lang/invoke/MethodHandle" ∧ yX7_clearBuffer.cls ≠ "java/lang/invoke/VarHandle" ∧ (parseMethodDescriptor yX7_clearBuffer.desc).map (fun d => d.parameters.length) = some 0 := by decide +kernel
theorem g_L_189 : GoodIn x_U (wsV RL 189 RX6 yX6_firstError (x_ws yX6_firstError cX6_firstError 1 (some .int))) := x_gV u_ml_L_189 u_in_X6_firstError u_se_X6_firstError u_ini_X6 u_co_X6_firstError
theorem hd_X6_firstError : yX6_firstError.cls ≠ "java/lang/invoke/MethodHandle" ∧ yX6_firstError.cls ≠ "java/lang/invoke/VarHandle" ∧ (parseMethodDescriptor yX6_firstError.desc).map (fun d => d.parameters.length) = some 0 := by decide +kernel
theorem g_L_192 : GoodIn x_U (wsV RL 192 RX7 yX7_firstError (x_ws yX7_firstError cX7_firstError 1 (some .int))) := x_gV u_ml_L_192 u_in_X7_firstError u_se_X7_firstError u_ini_X7 u_co_X7_firstError
theorem hd_X7_firstError : yX7_firstError.cls ≠ "java/lang/invoke/MethodHandle" ∧ yX7_firstError.cls ≠ "java/lang/invoke/VarHandle" ∧ (parseMethodDescriptor yX7_firstError.desc).map (fun d => d.parameters.length) = some 0 := by decide +kernel
theorem hd_L_play : yL_play.cls ≠ "java/lang/invoke/MethodHandle" ∧ yL_play.cls ≠ "java/lang/invoke/VarHandle" ∧ (parseMethodDescriptor yL_play.desc).map (fun d => d.parameters.length) = some 2 := by decide +kernel
theorem g_L_196 : GoodIn x_U (wsV RL 196 RX7 yX7_play (x_ws yX7_play cX7_play 1 (some .int))) := x_gV u_ml_L_196 u_in_X7_play u_se_X7_play u_ini_X7 u_co_X7_play
theorem hd_X7_play : yX7_play.cls ≠ "java/lang/invoke/MethodHandle" ∧ yX7_play.cls ≠ "java/lang/invoke/VarHandle" ∧ (parseMethodDescriptor yX7_play.desc).map (fun d => d.parameters.length) = some 0 := by decide +kernel
theorem hd_L_keep : yL_keep.cls ≠ "java/lang/invoke/MethodHandle" ∧ yL_keep.cls ≠ "java/lang/invoke/VarHandle" ∧ (parseMethodDescriptor yL_keep.desc).map (fun d => d.parameters.length) = some 2 := by decide +kernel
theorem g_L_200 : GoodIn x_U (wsV RL 200 RX7 yX7_keep (x_ws yX7_keep cX7_keep 3 none)) := x_gV u_ml_L_200 u_in_X7_keep u_se_X7_keep u_ini_X7 u_co_X7_keep
theorem hd_X7_keep : yX7_keep.cls ≠ "java/lang/invoke/MethodHandle" ∧ yX7_keep.cls ≠ "java/lang/invoke/VarHandle" ∧ (parseMethodDescriptor yX7_keep.desc).map (fun d => d.parameters.length) = some 1 := by decide +kernel
theorem hd_L_goBack : yL_goBack.cls ≠ "java/lang/invoke/MethodHandle" ∧ yL_goBack.cls ≠ "java/lang/invoke/VarHandle" ∧ (parseMethodDescriptor yL_goBack.desc).map (fun d => d.parameters.length) = some 2 := by decide +kernel
theorem g_L_203 : GoodIn x_U (wsV RL 203 RX7 yX7_goBack (x_ws yX7_goBack cX7_goBack 3 none)) := x_gV u_ml_L_203 u_in_X7_goBack u_se_X7_goBack u_ini_X7 u_co_X7_goBack
theorem hd_X7_goBack : yX7_goBack.cls ≠ "java/lang/invoke/MethodHandle" ∧ yX7_goBack.cls ≠ "java/lang/invoke/VarHandle" ∧ (parseMethodDescriptor yX7_goBack.desc).map (fun d => d.parameters.length) = some 1 := by decide +kernel
theorem hd_L_undo : yL_undo.cls ≠ "java/lang/invoke/MethodHandle" ∧ yL_undo.cls ≠ "java/lang/invoke/VarHandle" ∧ (parseMethodDescriptor yL_undo.desc).map (fun d => d.parameters.length) = some 1 := by decide +kernel
theorem g_L_207 : GoodIn x_U (wsV RL 207 RX7 yX7_undo (x_ws yX7_undo cX7_undo 2 none)) := x_gV u_ml_L_207 u_in_X7_undo u_se_X7_undo u_ini_X7 u_co_X7_undo
theorem hd_X7_undo : yX7_undo.cls ≠ "java/lang/invoke/MethodHandle" ∧ yX7_undo.cls ≠ "java/lang/invoke/VarHandle" ∧ (parseMethodDescriptor yX7_undo.desc).map (fun d => d.parameters.length) = some 0 := by decide +kernel
theorem g_L_208 : GoodIn x_U (wsV RL 208 RX6 yX6_savedStates (x_ws yX6_savedStates cX6_savedStates 1 (some .int))) := x_gV u_ml_L_208 u_in_X6_savedStates u_se_X6_savedStates u_ini_X6 u_co_X6_savedStates
theorem hd_X6_savedStates : yX6_savedStates.cls ≠ "java/lang/invoke/MethodHandle" ∧ yX6_savedStates.cls ≠ "java/lang/invoke/VarHandle" ∧ (parseMethodDescriptor yX6_savedStates.desc).map (fun d => d.parameters.length) = some 0 := by decide +kernel
theorem g_L_211 : GoodIn x_U (wsV RL 211 RX7 yX7_savedStates (x_ws yX7_savedStates cX7_savedStates 1 (some .int))) := x_gV u_ml_L_211 u_in_X7_savedStates u_se_X7_savedStates u_ini_X7 u_co_X7_savedStates
theorem hd_X7_savedStates : yX7_savedStates.cls ≠ "java/lang/invoke/MethodHandle" ∧ yX7_savedStates.cls ≠ "java/lang/invoke/VarHandle" ∧ (parseMethodDescriptor yX7_savedStates.desc).map (fun d => d.parameters.length) = some 0 := by decide +kernel
theorem hd_L_doingOf : yL_doingOf.cls ≠ "java/lang/invoke/MethodHandle" ∧ yL_doingOf.cls ≠ "java/lang/invoke/VarHandle" ∧ (parseMethodDescriptor yL_doingOf.desc).map (fun d => d.parameters.length) = some 3 := by decide +kernel
theorem g_L_214 : GoodIn x_U (wsV RL 214 RX7 yX7_doingOf (x_ws yX7_doingOf cX7_doingOf 2 (some .int))) := x_gV u_ml_L_214 u_in_X7_doingOf u_se_X7_doingOf u_ini_X7 u_co_X7_doingOf
theorem hd_X7_doingOf : yX7_doingOf.cls ≠ "java/lang/invoke/MethodHandle" ∧ yX7_doingOf.cls ≠ "java/lang/invoke/VarHandle" ∧ (parseMethodDescriptor yX7_doingOf.desc).map (fun d => d.parameters.length) = some 1 := by decide +kernel
theorem hd_L_roomOf : yL_roomOf.cls ≠ "java/lang/invoke/MethodHandle" ∧ yL_roomOf.cls ≠ "java/lang/invoke/VarHandle" ∧ (parseMethodDescriptor yL_roomOf.desc).map (fun d => d.parameters.length) = some 3 := by decide +kernel
theorem g_L_217 : GoodIn x_U (wsV RL 217 RX7 yX7_roomOf (x_ws yX7_roomOf cX7_roomOf 3 (some .int))) := x_gV u_ml_L_217 u_in_X7_roomOf u_se_X7_roomOf u_ini_X7 u_co_X7_roomOf
theorem hd_X7_roomOf : yX7_roomOf.cls ≠ "java/lang/invoke/MethodHandle" ∧ yX7_roomOf.cls ≠ "java/lang/invoke/VarHandle" ∧ (parseMethodDescriptor yX7_roomOf.desc).map (fun d => d.parameters.length) = some 1 := by decide +kernel
theorem hd_L_ticksLeft : yL_ticksLeft.cls ≠ "java/lang/invoke/MethodHandle" ∧ yL_ticksLeft.cls ≠ "java/lang/invoke/VarHandle" ∧ (parseMethodDescriptor yL_ticksLeft.desc).map (fun d => d.parameters.length) = some 3 := by decide +kernel
theorem g_L_220 : GoodIn x_U (wsV RL 220 RX7 yX7_ticksLeft (x_ws yX7_ticksLeft cX7_ticksLeft 2 (some .int))) := x_gV u_ml_L_220 u_in_X7_ticksLeft u_se_X7_ticksLeft u_ini_X7 u_co_X7_ticksLeft
theorem hd_X7_ticksLeft : yX7_ticksLeft.cls ≠ "java/lang/invoke/MethodHandle" ∧ yX7_ticksLeft.cls ≠ "java/lang/invoke/VarHandle" ∧ (parseMethodDescriptor yX7_ticksLeft.desc).map (fun d => d.parameters.length) = some 1 := by decide +kernel
theorem hd_L_ticksToRenewal : yL_ticksToRenewal.cls ≠ "java/lang/invoke/MethodHandle" ∧ yL_ticksToRenewal.cls ≠ "java/lang/invoke/VarHandle" ∧ (parseMethodDescriptor yL_ticksToRenewal.desc).map (fun d => d.parameters.length) = some 3 := by decide +kernel
theorem g_L_223 : GoodIn x_U (wsV RL 223 RX7 yX7_ticksToRenewal (x_ws yX7_ticksToRenewal cX7_ticksToRenewal 3 (some .int))) := x_gV u_ml_L_223 u_in_X7_ticksToRenewal u_se_X7_ticksToRenewal u_ini_X7 u_co_X7_ticksToRenewal
theorem hd_X7_ticksToRenewal : yX7_ticksToRenewal.cls ≠ "java/lang/invoke/MethodHandle" ∧ yX7_ticksToRenewal.cls ≠ "java/lang/invoke/VarHandle" ∧ (parseMethodDescriptor yX7_ticksToRenewal.desc).map (fun d => d.parameters.length) = some 1 := by decide +kernel
theorem hd_L_isHaunted : yL_isHaunted.cls ≠ "java/lang/invoke/MethodHandle" ∧ yL_isHaunted.cls ≠ "java/lang/invoke/VarHandle" ∧ (parseMethodDescriptor yL_isHaunted.desc).map (fun d => d.parameters.length) = some 3 := by decide +kernel
theorem g_L_226 : GoodIn x_U (wsV RL 226 RX7 yX7_isHaunted (x_ws yX7_isHaunted cX7_isHaunted 2 (some .boolean))) := x_gV u_ml_L_226 u_in_X7_isHaunted u_se_X7_isHaunted u_ini_X7 u_co_X7_isHaunted
theorem hd_X7_isHaunted : yX7_isHaunted.cls ≠ "java/lang/invoke/MethodHandle" ∧ yX7_isHaunted.cls ≠ "java/lang/invoke/VarHandle" ∧ (parseMethodDescriptor yX7_isHaunted.desc).map (fun d => d.parameters.length) = some 1 := by decide +kernel
theorem hd_L_staysOf : yL_staysOf.cls ≠ "java/lang/invoke/MethodHandle" ∧ yL_staysOf.cls ≠ "java/lang/invoke/VarHandle" ∧ (parseMethodDescriptor yL_staysOf.desc).map (fun d => d.parameters.length) = some 3 := by decide +kernel
theorem g_L_229 : GoodIn x_U (wsV RL 229 RX7 yX7_staysOf (x_ws yX7_staysOf cX7_staysOf 2 (some .int))) := x_gV u_ml_L_229 u_in_X7_staysOf u_se_X7_staysOf u_ini_X7 u_co_X7_staysOf
theorem hd_X7_staysOf : yX7_staysOf.cls ≠ "java/lang/invoke/MethodHandle" ∧ yX7_staysOf.cls ≠ "java/lang/invoke/VarHandle" ∧ (parseMethodDescriptor yX7_staysOf.desc).map (fun d => d.parameters.length) = some 1 := by decide +kernel
theorem g_L_230 : GoodIn x_U (wsV RL 230 RX6 yX6_housed (x_ws yX6_housed cX6_housed 1 (some .int))) := x_gV u_ml_L_230 u_in_X6_housed u_se_X6_housed u_ini_X6 u_co_X6_housed
theorem hd_X6_housed : yX6_housed.cls ≠ "java/lang/invoke/MethodHandle" ∧ yX6_housed.cls ≠ "java/lang/invoke/VarHandle" ∧ (parseMethodDescriptor yX6_housed.desc).map (fun d => d.parameters.length) = some 0 := by decide +kernel
theorem g_L_233 : GoodIn x_U (wsV RL 233 RX7 yX7_housed (x_ws yX7_housed cX7_housed 1 (some .int))) := x_gV u_ml_L_233 u_in_X7_housed u_se_X7_housed u_ini_X7 u_co_X7_housed
theorem hd_X7_housed : yX7_housed.cls ≠ "java/lang/invoke/MethodHandle" ∧ yX7_housed.cls ≠ "java/lang/invoke/VarHandle" ∧ (parseMethodDescriptor yX7_housed.desc).map (fun d => d.parameters.length) = some 0 := by decide +kernel
theorem hd_L_stateOf : yL_stateOf.cls ≠ "java/lang/invoke/MethodHandle" ∧ yL_stateOf.cls ≠ "java/lang/invoke/VarHandle" ∧ (parseMethodDescriptor yL_stateOf.desc).map (fun d => d.parameters.length) = some 3 := by decide +kernel
theorem g_L_236 : GoodIn x_U (wsV RL 236 RX7 yX7_stateOf (x_ws yX7_stateOf cX7_stateOf 2 (some .int))) := x_gV u_ml_L_236 u_in_X7_stateOf u_se_X7_stateOf u_ini_X7 u_co_X7_stateOf
theorem hd_X7_stateOf : yX7_stateOf.cls ≠ "java/lang/invoke/MethodHandle" ∧ yX7_stateOf.cls ≠ "java/lang/invoke/VarHandle" ∧ (parseMethodDescriptor yX7_stateOf.desc).map (fun d => d.parameters.length) = some 1 := by decide +kernel
theorem hd_L_guestOf : yL_guestOf.cls ≠ "java/lang/invoke/MethodHandle" ∧ yL_guestOf.cls ≠ "java/lang/invoke/VarHandle" ∧ (parseMethodDescriptor yL_guestOf.desc).map (fun d => d.parameters.length) = some 3 := by decide +kernel
theorem g_L_239 : GoodIn x_U (wsV RL 239 RX7 yX7_guestOf (x_ws yX7_guestOf cX7_guestOf 3 (some .int))) := x_gV u_ml_L_239 u_in_X7_guestOf u_se_X7_guestOf u_ini_X7 u_co_X7_guestOf
theorem hd_X7_guestOf : yX7_guestOf.cls ≠ "java/lang/invoke/MethodHandle" ∧ yX7_guestOf.cls ≠ "java/lang/invoke/VarHandle" ∧ (parseMethodDescriptor yX7_guestOf.desc).map (fun d => d.parameters.length) = some 1 := by decide +kernel
theorem hd_L_ticksOf : yL_ticksOf.cls ≠ "java/lang/invoke/MethodHandle" ∧ yL_ticksOf.cls ≠ "java/lang/invoke/VarHandle" ∧ (parseMethodDescriptor yL_ticksOf.desc).map (fun d => d.parameters.length) = some 3 := by decide +kernel
theorem g_L_242 : GoodIn x_U (wsV RL 242 RX7 yX7_ticksOf (x_ws yX7_ticksOf cX7_ticksOf 3 (some .int))) := x_gV u_ml_L_242 u_in_X7_ticksOf u_se_X7_ticksOf u_ini_X7 u_co_X7_ticksOf
theorem hd_X7_ticksOf : yX7_ticksOf.cls ≠ "java/lang/invoke/MethodHandle" ∧ yX7_ticksOf.cls ≠ "java/lang/invoke/VarHandle" ∧ (parseMethodDescriptor yX7_ticksOf.desc).map (fun d => d.parameters.length) = some 1 := by decide +kernel
theorem hd_L_reservedFor : yL_reservedFor.cls ≠ "java/lang/invoke/MethodHandle" ∧ yL_reservedFor.cls ≠ "java/lang/invoke/VarHandle" ∧ (parseMethodDescriptor yL_reservedFor.desc).map (fun d => d.parameters.length) = some 3 := by decide +kernel
theorem g_L_245 : GoodIn x_U (wsV RL 245 RX7 yX7_reservedFor (x_ws yX7_reservedFor cX7_reservedFor 3 (some .int))) := x_gV u_ml_L_245 u_in_X7_reservedFor u_se_X7_reservedFor u_ini_X7 u_co_X7_reservedFor
theorem hd_X7_reservedFor : yX7_reservedFor.cls ≠ "java/lang/invoke/MethodHandle" ∧ yX7_reservedFor.cls ≠ "java/lang/invoke/VarHandle" ∧ (parseMethodDescriptor yX7_reservedFor.desc).map (fun d => d.parameters.length) = some 1 := by decide +kernel
theorem hd_L_hasGhost : yL_hasGhost.cls ≠ "java/lang/invoke/MethodHandle" ∧ yL_hasGhost.cls ≠ "java/lang/invoke/VarHandle" ∧ (parseMethodDescriptor yL_hasGhost.desc).map (fun d => d.parameters.length) = some 3 := by decide +kernel
theorem g_L_248 : GoodIn x_U (wsV RL 248 RX7 yX7_hasGhost (x_ws yX7_hasGhost cX7_hasGhost 2 (some .boolean))) := x_gV u_ml_L_248 u_in_X7_hasGhost u_se_X7_hasGhost u_ini_X7 u_co_X7_hasGhost
theorem hd_X7_hasGhost : yX7_hasGhost.cls ≠ "java/lang/invoke/MethodHandle" ∧ yX7_hasGhost.cls ≠ "java/lang/invoke/VarHandle" ∧ (parseMethodDescriptor yX7_hasGhost.desc).map (fun d => d.parameters.length) = some 1 := by decide +kernel
theorem hd_L_roomFor : yL_roomFor.cls ≠ "java/lang/invoke/MethodHandle" ∧ yL_roomFor.cls ≠ "java/lang/invoke/VarHandle" ∧ (parseMethodDescriptor yL_roomFor.desc).map (fun d => d.parameters.length) = some 3 := by decide +kernel
theorem g_L_251 : GoodIn x_U (wsV RL 251 RX7 yX7_roomFor (x_ws yX7_roomFor cX7_roomFor 3 (some .int))) := x_gV u_ml_L_251 u_in_X7_roomFor u_se_X7_roomFor u_ini_X7 u_co_X7_roomFor
theorem hd_X7_roomFor : yX7_roomFor.cls ≠ "java/lang/invoke/MethodHandle" ∧ yX7_roomFor.cls ≠ "java/lang/invoke/VarHandle" ∧ (parseMethodDescriptor yX7_roomFor.desc).map (fun d => d.parameters.length) = some 1 := by decide +kernel
theorem g_L_252 : GoodIn x_U (wsV RL 252 RX6 yX6_leasedByRooms (x_ws yX6_leasedByRooms cX6_leasedByRooms 1 (some .int))) := x_gV u_ml_L_252 u_in_X6_leasedByRooms u_se_X6_leasedByRooms u_ini_X6 u_co_X6_leasedByRooms
theorem hd_X6_leasedByRooms : yX6_leasedByRooms.cls ≠ "java/lang/invoke/MethodHandle" ∧ yX6_leasedByRooms.cls ≠ "java/lang/invoke/VarHandle" ∧ (parseMethodDescriptor yX6_leasedByRooms.desc).map (fun d => d.parameters.length) = some 0 := by decide +kernel
theorem g_L_255 : GoodIn x_U (wsV RL 255 RX7 yX7_leasedByRooms (x_ws yX7_leasedByRooms cX7_leasedByRooms 1 (some .int))) := x_gV u_ml_L_255 u_in_X7_leasedByRooms u_se_X7_leasedByRooms u_ini_X7 u_co_X7_leasedByRooms
theorem hd_X7_leasedByRooms : yX7_leasedByRooms.cls ≠ "java/lang/invoke/MethodHandle" ∧ yX7_leasedByRooms.cls ≠ "java/lang/invoke/VarHandle" ∧ (parseMethodDescriptor yX7_leasedByRooms.desc).map (fun d => d.parameters.length) = some 0 := by decide +kernel
theorem g_L_256 : GoodIn x_U (wsV RL 256 RX6 yX6_leasedByGuests (x_ws yX6_leasedByGuests cX6_leasedByGuests 1 (some .int))) := x_gV u_ml_L_256 u_in_X6_leasedByGuests u_se_X6_leasedByGuests u_ini_X6 u_co_X6_leasedByGuests
theorem hd_X6_leasedByGuests : yX6_leasedByGuests.cls ≠ "java/lang/invoke/MethodHandle" ∧ yX6_leasedByGuests.cls ≠ "java/lang/invoke/VarHandle" ∧ (parseMethodDescriptor yX6_leasedByGuests.desc).map (fun d => d.parameters.length) = some 0 := by decide +kernel
theorem g_L_259 : GoodIn x_U (wsV RL 259 RX7 yX7_leasedByGuests (x_ws yX7_leasedByGuests cX7_leasedByGuests 1 (some .int))) := x_gV u_ml_L_259 u_in_X7_leasedByGuests u_se_X7_leasedByGuests u_ini_X7 u_co_X7_leasedByGuests
theorem hd_X7_leasedByGuests : yX7_leasedByGuests.cls ≠ "java/lang/invoke/MethodHandle" ∧ yX7_leasedByGuests.cls ≠ "java/lang/invoke/VarHandle" ∧ (parseMethodDescriptor yX7_leasedByGuests.desc).map (fun d => d.parameters.length) = some 0 := by decide +kernel
theorem g_L_260 : GoodIn x_U (wsV RL 260 RX6 yX6_freeRooms (x_ws yX6_freeRooms cX6_freeRooms 1 (some .int))) := x_gV u_ml_L_260 u_in_X6_freeRooms u_se_X6_freeRooms u_ini_X6 u_co_X6_freeRooms
theorem hd_X6_freeRooms : yX6_freeRooms.cls ≠ "java/lang/invoke/MethodHandle" ∧ yX6_freeRooms.cls ≠ "java/lang/invoke/VarHandle" ∧ (parseMethodDescriptor yX6_freeRooms.desc).map (fun d => d.parameters.length) = some 0 := by decide +kernel
theorem g_L_263 : GoodIn x_U (wsV RL 263 RX7 yX7_freeRooms (x_ws yX7_freeRooms cX7_freeRooms 1 (some .int))) := x_gV u_ml_L_263 u_in_X7_freeRooms u_se_X7_freeRooms u_ini_X7 u_co_X7_freeRooms
theorem hd_X7_freeRooms : yX7_freeRooms.cls ≠ "java/lang/invoke/MethodHandle" ∧ yX7_freeRooms.cls ≠ "java/lang/invoke/VarHandle" ∧ (parseMethodDescriptor yX7_freeRooms.desc).map (fun d => d.parameters.length) = some 0 := by decide +kernel
theorem hd_L_nextFreeByRooms : yL_nextFreeByRooms.cls ≠ "java/lang/invoke/MethodHandle" ∧ yL_nextFreeByRooms.cls ≠ "java/lang/invoke/VarHandle" ∧ (parseMethodDescriptor yL_nextFreeByRooms.desc).map (fun d => d.parameters.length) = some 2 := by decide +kernel
theorem g_L_266 : GoodIn x_U (wsV RL 266 RX7 yX7_nextFreeByRooms (x_ws yX7_nextFreeByRooms cX7_nextFreeByRooms 1 (some .int))) := x_gV u_ml_L_266 u_in_X7_nextFreeByRooms u_se_X7_nextFreeByRooms u_ini_X7 u_co_X7_nextFreeByRooms
theorem hd_X7_nextFreeByRooms : yX7_nextFreeByRooms.cls ≠ "java/lang/invoke/MethodHandle" ∧ yX7_nextFreeByRooms.cls ≠ "java/lang/invoke/VarHandle" ∧ (parseMethodDescriptor yX7_nextFreeByRooms.desc).map (fun d => d.parameters.length) = some 0 := by decide +kernel
theorem hd_L_nextFreeByTicks : yL_nextFreeByTicks.cls ≠ "java/lang/invoke/MethodHandle" ∧ yL_nextFreeByTicks.cls ≠ "java/lang/invoke/VarHandle" ∧ (parseMethodDescriptor yL_nextFreeByTicks.desc).map (fun d => d.parameters.length) = some 2 := by decide +kernel
theorem g_L_269 : GoodIn x_U (wsV RL 269 RX7 yX7_nextFreeByTicks (x_ws yX7_nextFreeByTicks cX7_nextFreeByTicks 1 (some .int))) := x_gV u_ml_L_269 u_in_X7_nextFreeByTicks u_se_X7_nextFreeByTicks u_ini_X7 u_co_X7_nextFreeByTicks
theorem hd_X7_nextFreeByTicks : yX7_nextFreeByTicks.cls ≠ "java/lang/invoke/MethodHandle" ∧ yX7_nextFreeByTicks.cls ≠ "java/lang/invoke/VarHandle" ∧ (parseMethodDescriptor yX7_nextFreeByTicks.desc).map (fun d => d.parameters.length) = some 0 := by decide +kernel
theorem g_L_270 : GoodIn x_U (wsV RL 270 RX6 yX6_leaseTicks (x_ws yX6_leaseTicks cX6_leaseTicks 1 (some .int))) := x_gV u_ml_L_270 u_in_X6_leaseTicks u_se_X6_leaseTicks u_ini_X6 u_co_X6_leaseTicks
theorem hd_X6_leaseTicks : yX6_leaseTicks.cls ≠ "java/lang/invoke/MethodHandle" ∧ yX6_leaseTicks.cls ≠ "java/lang/invoke/VarHandle" ∧ (parseMethodDescriptor yX6_leaseTicks.desc).map (fun d => d.parameters.length) = some 0 := by decide +kernel
theorem g_L_273 : GoodIn x_U (wsV RL 273 RX7 yX7_leaseTicks (x_ws yX7_leaseTicks cX7_leaseTicks 1 (some .int))) := x_gV u_ml_L_273 u_in_X7_leaseTicks u_se_X7_leaseTicks u_ini_X7 u_co_X7_leaseTicks
theorem hd_X7_leaseTicks : yX7_leaseTicks.cls ≠ "java/lang/invoke/MethodHandle" ∧ yX7_leaseTicks.cls ≠ "java/lang/invoke/VarHandle" ∧ (parseMethodDescriptor yX7_leaseTicks.desc).map (fun d => d.parameters.length) = some 0 := by decide +kernel
theorem g_L_274 : GoodIn x_U (wsV RL 274 RX6 yX6_holdTicks (x_ws yX6_holdTicks cX6_holdTicks 1 (some .int))) := x_gV u_ml_L_274 u_in_X6_holdTicks u_se_X6_holdTicks u_ini_X6 u_co_X6_holdTicks
theorem hd_X6_holdTicks : yX6_holdTicks.cls ≠ "java/lang/invoke/MethodHandle" ∧ yX6_holdTicks.cls ≠ "java/lang/invoke/VarHandle" ∧ (parseMethodDescriptor yX6_holdTicks.desc).map (fun d => d.parameters.length) = some 0 := by decide +kernel
theorem g_L_277 : GoodIn x_U (wsV RL 277 RX7 yX7_holdTicks (x_ws yX7_holdTicks cX7_holdTicks 1 (some .int))) := x_gV u_ml_L_277 u_in_X7_holdTicks u_se_X7_holdTicks u_ini_X7 u_co_X7_holdTicks
theorem hd_X7_holdTicks : yX7_holdTicks.cls ≠ "java/lang/invoke/MethodHandle" ∧ yX7_holdTicks.cls ≠ "java/lang/invoke/VarHandle" ∧ (parseMethodDescriptor yX7_holdTicks.desc).map (fun d => d.parameters.length) = some 0 := by decide +kernel
theorem g_L_278 : GoodIn x_U (wsV RL 278 RX6 yX6_shutTicks (x_ws yX6_shutTicks cX6_shutTicks 1 (some .int))) := x_gV u_ml_L_278 u_in_X6_shutTicks u_se_X6_shutTicks u_ini_X6 u_co_X6_shutTicks
theorem hd_X6_shutTicks : yX6_shutTicks.cls ≠ "java/lang/invoke/MethodHandle" ∧ yX6_shutTicks.cls ≠ "java/lang/invoke/VarHandle" ∧ (parseMethodDescriptor yX6_shutTicks.desc).map (fun d => d.parameters.length) = some 0 := by decide +kernel
theorem g_L_281 : GoodIn x_U (wsV RL 281 RX7 yX7_shutTicks (x_ws yX7_shutTicks cX7_shutTicks 1 (some .int))) := x_gV u_ml_L_281 u_in_X7_shutTicks u_se_X7_shutTicks u_ini_X7 u_co_X7_shutTicks
theorem hd_X7_shutTicks : yX7_shutTicks.cls ≠ "java/lang/invoke/MethodHandle" ∧ yX7_shutTicks.cls ≠ "java/lang/invoke/VarHandle" ∧ (parseMethodDescriptor yX7_shutTicks.desc).map (fun d => d.parameters.length) = some 0 := by decide +kernel
theorem g_L_282 : GoodIn x_U (wsV RL 282 RX6 yX6_messages (x_ws yX6_messages cX6_messages 1 (some .int))) := x_gV u_ml_L_282 u_in_X6_messages u_se_X6_messages u_ini_X6 u_co_X6_messages
theorem hd_X6_messages : yX6_messages.cls ≠ "java/lang/invoke/MethodHandle" ∧ yX6_messages.cls ≠ "java/lang/invoke/VarHandle" ∧ (parseMethodDescriptor yX6_messages.desc).map (fun d => d.parameters.length) = some 0 := by decide +kernel
theorem g_L_285 : GoodIn x_U (wsV RL 285 RX7 yX7_messages (x_ws yX7_messages cX7_messages 1 (some .int))) := x_gV u_ml_L_285 u_in_X7_messages u_se_X7_messages u_ini_X7 u_co_X7_messages
theorem hd_X7_messages : yX7_messages.cls ≠ "java/lang/invoke/MethodHandle" ∧ yX7_messages.cls ≠ "java/lang/invoke/VarHandle" ∧ (parseMethodDescriptor yX7_messages.desc).map (fun d => d.parameters.length) = some 0 := by decide +kernel
theorem hd_L_kindAt : yL_kindAt.cls ≠ "java/lang/invoke/MethodHandle" ∧ yL_kindAt.cls ≠ "java/lang/invoke/VarHandle" ∧ (parseMethodDescriptor yL_kindAt.desc).map (fun d => d.parameters.length) = some 3 := by decide +kernel
theorem g_L_288 : GoodIn x_U (wsV RL 288 RX7 yX7_kindAt (x_ws yX7_kindAt cX7_kindAt 2 (some .int))) := x_gV u_ml_L_288 u_in_X7_kindAt u_se_X7_kindAt u_ini_X7 u_co_X7_kindAt
theorem hd_X7_kindAt : yX7_kindAt.cls ≠ "java/lang/invoke/MethodHandle" ∧ yX7_kindAt.cls ≠ "java/lang/invoke/VarHandle" ∧ (parseMethodDescriptor yX7_kindAt.desc).map (fun d => d.parameters.length) = some 1 := by decide +kernel
theorem hd_L_guestAt : yL_guestAt.cls ≠ "java/lang/invoke/MethodHandle" ∧ yL_guestAt.cls ≠ "java/lang/invoke/VarHandle" ∧ (parseMethodDescriptor yL_guestAt.desc).map (fun d => d.parameters.length) = some 3 := by decide +kernel
theorem g_L_291 : GoodIn x_U (wsV RL 291 RX7 yX7_guestAt (x_ws yX7_guestAt cX7_guestAt 2 (some .int))) := x_gV u_ml_L_291 u_in_X7_guestAt u_se_X7_guestAt u_ini_X7 u_co_X7_guestAt
theorem hd_X7_guestAt : yX7_guestAt.cls ≠ "java/lang/invoke/MethodHandle" ∧ yX7_guestAt.cls ≠ "java/lang/invoke/VarHandle" ∧ (parseMethodDescriptor yX7_guestAt.desc).map (fun d => d.parameters.length) = some 1 := by decide +kernel
theorem hd_L_roomAt : yL_roomAt.cls ≠ "java/lang/invoke/MethodHandle" ∧ yL_roomAt.cls ≠ "java/lang/invoke/VarHandle" ∧ (parseMethodDescriptor yL_roomAt.desc).map (fun d => d.parameters.length) = some 3 := by decide +kernel
theorem g_L_294 : GoodIn x_U (wsV RL 294 RX7 yX7_roomAt (x_ws yX7_roomAt cX7_roomAt 3 (some .int))) := x_gV u_ml_L_294 u_in_X7_roomAt u_se_X7_roomAt u_ini_X7 u_co_X7_roomAt
theorem hd_X7_roomAt : yX7_roomAt.cls ≠ "java/lang/invoke/MethodHandle" ∧ yX7_roomAt.cls ≠ "java/lang/invoke/VarHandle" ∧ (parseMethodDescriptor yX7_roomAt.desc).map (fun d => d.parameters.length) = some 1 := by decide +kernel
theorem g_L_295 : GoodIn x_U (wsV RL 295 RX6 yX6_time (x_ws yX6_time cX6_time 1 (some .int))) := x_gV u_ml_L_295 u_in_X6_time u_se_X6_time u_ini_X6 u_co_X6_time
theorem hd_X6_time : yX6_time.cls ≠ "java/lang/invoke/MethodHandle" ∧ yX6_time.cls ≠ "java/lang/invoke/VarHandle" ∧ (parseMethodDescriptor yX6_time.desc).map (fun d => d.parameters.length) = some 0 := by decide +kernel
theorem g_L_298 : GoodIn x_U (wsV RL 298 RX7 yX7_time (x_ws yX7_time cX7_time 1 (some .int))) := x_gV u_ml_L_298 u_in_X7_time u_se_X7_time u_ini_X7 u_co_X7_time
theorem hd_X7_time : yX7_time.cls ≠ "java/lang/invoke/MethodHandle" ∧ yX7_time.cls ≠ "java/lang/invoke/VarHandle" ∧ (parseMethodDescriptor yX7_time.desc).map (fun d => d.parameters.length) = some 0 := by decide +kernel
theorem hd_L_sent : yL_sent.cls ≠ "java/lang/invoke/MethodHandle" ∧ yL_sent.cls ≠ "java/lang/invoke/VarHandle" ∧ (parseMethodDescriptor yL_sent.desc).map (fun d => d.parameters.length) = some 3 := by decide +kernel
theorem g_L_301 : GoodIn x_U (wsV RL 301 RX7 yX7_sent (x_ws yX7_sent cX7_sent 2 (some .int))) := x_gV u_ml_L_301 u_in_X7_sent u_se_X7_sent u_ini_X7 u_co_X7_sent
theorem hd_X7_sent : yX7_sent.cls ≠ "java/lang/invoke/MethodHandle" ∧ yX7_sent.cls ≠ "java/lang/invoke/VarHandle" ∧ (parseMethodDescriptor yX7_sent.desc).map (fun d => d.parameters.length) = some 1 := by decide +kernel
theorem g_L_302 : GoodIn x_U (wsV RL 302 RX6 yX6_lost (x_ws yX6_lost cX6_lost 1 (some .int))) := x_gV u_ml_L_302 u_in_X6_lost u_se_X6_lost u_ini_X6 u_co_X6_lost
theorem hd_X6_lost : yX6_lost.cls ≠ "java/lang/invoke/MethodHandle" ∧ yX6_lost.cls ≠ "java/lang/invoke/VarHandle" ∧ (parseMethodDescriptor yX6_lost.desc).map (fun d => d.parameters.length) = some 0 := by decide +kernel
theorem g_L_305 : GoodIn x_U (wsV RL 305 RX7 yX7_lost (x_ws yX7_lost cX7_lost 1 (some .int))) := x_gV u_ml_L_305 u_in_X7_lost u_se_X7_lost u_ini_X7 u_co_X7_lost
theorem hd_X7_lost : yX7_lost.cls ≠ "java/lang/invoke/MethodHandle" ∧ yX7_lost.cls ≠ "java/lang/invoke/VarHandle" ∧ (parseMethodDescriptor yX7_lost.desc).map (fun d => d.parameters.length) = some 0 := by decide +kernel
theorem g_L_306 : GoodIn x_U (wsV RL 306 RX6 yX6_delivered (x_ws yX6_delivered cX6_delivered 1 (some .int))) := x_gV u_ml_L_306 u_in_X6_delivered u_se_X6_delivered u_ini_X6 u_co_X6_delivered
theorem hd_X6_delivered : yX6_delivered.cls ≠ "java/lang/invoke/MethodHandle" ∧ yX6_delivered.cls ≠ "java/lang/invoke/VarHandle" ∧ (parseMethodDescriptor yX6_delivered.desc).map (fun d => d.parameters.length) = some 0 := by decide +kernel
theorem g_L_309 : GoodIn x_U (wsV RL 309 RX7 yX7_delivered (x_ws yX7_delivered cX7_delivered 1 (some .int))) := x_gV u_ml_L_309 u_in_X7_delivered u_se_X7_delivered u_ini_X7 u_co_X7_delivered
theorem hd_X7_delivered : yX7_delivered.cls ≠ "java/lang/invoke/MethodHandle" ∧ yX7_delivered.cls ≠ "java/lang/invoke/VarHandle" ∧ (parseMethodDescriptor yX7_delivered.desc).map (fun d => d.parameters.length) = some 0 := by decide +kernel
theorem g_L_310 : GoodIn x_U (wsV RL 310 RX6 yX6_leases (x_ws yX6_leases cX6_leases 1 (some .int))) := x_gV u_ml_L_310 u_in_X6_leases u_se_X6_leases u_ini_X6 u_co_X6_leases
theorem hd_X6_leases : yX6_leases.cls ≠ "java/lang/invoke/MethodHandle" ∧ yX6_leases.cls ≠ "java/lang/invoke/VarHandle" ∧ (parseMethodDescriptor yX6_leases.desc).map (fun d => d.parameters.length) = some 0 := by decide +kernel
theorem g_L_313 : GoodIn x_U (wsV RL 313 RX7 yX7_leases (x_ws yX7_leases cX7_leases 1 (some .int))) := x_gV u_ml_L_313 u_in_X7_leases u_se_X7_leases u_ini_X7 u_co_X7_leases
theorem hd_X7_leases : yX7_leases.cls ≠ "java/lang/invoke/MethodHandle" ∧ yX7_leases.cls ≠ "java/lang/invoke/VarHandle" ∧ (parseMethodDescriptor yX7_leases.desc).map (fun d => d.parameters.length) = some 0 := by decide +kernel
theorem g_L_314 : GoodIn x_U (wsV RL 314 RX6 yX6_evicted (x_ws yX6_evicted cX6_evicted 1 (some .int))) := x_gV u_ml_L_314 u_in_X6_evicted u_se_X6_evicted u_ini_X6 u_co_X6_evicted
theorem hd_X6_evicted : yX6_evicted.cls ≠ "java/lang/invoke/MethodHandle" ∧ yX6_evicted.cls ≠ "java/lang/invoke/VarHandle" ∧ (parseMethodDescriptor yX6_evicted.desc).map (fun d => d.parameters.length) = some 0 := by decide +kernel
theorem g_L_317 : GoodIn x_U (wsV RL 317 RX7 yX7_evicted (x_ws yX7_evicted cX7_evicted 1 (some .int))) := x_gV u_ml_L_317 u_in_X7_evicted u_se_X7_evicted u_ini_X7 u_co_X7_evicted
theorem hd_X7_evicted : yX7_evicted.cls ≠ "java/lang/invoke/MethodHandle" ∧ yX7_evicted.cls ≠ "java/lang/invoke/VarHandle" ∧ (parseMethodDescriptor yX7_evicted.desc).map (fun d => d.parameters.length) = some 0 := by decide +kernel
theorem g_L_318 : GoodIn x_U (wsV RL 318 RX6 yX6_shutSoFar (x_ws yX6_shutSoFar cX6_shutSoFar 1 (some .int))) := x_gV u_ml_L_318 u_in_X6_shutSoFar u_se_X6_shutSoFar u_ini_X6 u_co_X6_shutSoFar
theorem hd_X6_shutSoFar : yX6_shutSoFar.cls ≠ "java/lang/invoke/MethodHandle" ∧ yX6_shutSoFar.cls ≠ "java/lang/invoke/VarHandle" ∧ (parseMethodDescriptor yX6_shutSoFar.desc).map (fun d => d.parameters.length) = some 0 := by decide +kernel
theorem g_L_321 : GoodIn x_U (wsV RL 321 RX7 yX7_shutSoFar (x_ws yX7_shutSoFar cX7_shutSoFar 1 (some .int))) := x_gV u_ml_L_321 u_in_X7_shutSoFar u_se_X7_shutSoFar u_ini_X7 u_co_X7_shutSoFar
theorem hd_X7_shutSoFar : yX7_shutSoFar.cls ≠ "java/lang/invoke/MethodHandle" ∧ yX7_shutSoFar.cls ≠ "java/lang/invoke/VarHandle" ∧ (parseMethodDescriptor yX7_shutSoFar.desc).map (fun d => d.parameters.length) = some 0 := by decide +kernel
theorem g_L_322 : GoodIn x_U (wsV RL 322 RX6 yX6_wouldDeliver (x_ws yX6_wouldDeliver cX6_wouldDeliver 1 (some .int))) := x_gV u_ml_L_322 u_in_X6_wouldDeliver u_se_X6_wouldDeliver u_ini_X6 u_co_X6_wouldDeliver
theorem hd_X6_wouldDeliver : yX6_wouldDeliver.cls ≠ "java/lang/invoke/MethodHandle" ∧ yX6_wouldDeliver.cls ≠ "java/lang/invoke/VarHandle" ∧ (parseMethodDescriptor yX6_wouldDeliver.desc).map (fun d => d.parameters.length) = some 0 := by decide +kernel
theorem g_L_325 : GoodIn x_U (wsV RL 325 RX7 yX7_wouldDeliver (x_ws yX7_wouldDeliver cX7_wouldDeliver 1 (some .int))) := x_gV u_ml_L_325 u_in_X7_wouldDeliver u_se_X7_wouldDeliver u_ini_X7 u_co_X7_wouldDeliver
theorem hd_X7_wouldDeliver : yX7_wouldDeliver.cls ≠ "java/lang/invoke/MethodHandle" ∧ yX7_wouldDeliver.cls ≠ "java/lang/invoke/VarHandle" ∧ (parseMethodDescriptor yX7_wouldDeliver.desc).map (fun d => d.parameters.length) = some 0 := by decide +kernel
theorem g_L_326 : GoodIn x_U (wsV RL 326 RX6 yX6_wouldHouse (x_ws yX6_wouldHouse cX6_wouldHouse 1 (some .int))) := x_gV u_ml_L_326 u_in_X6_wouldHouse u_se_X6_wouldHouse u_ini_X6 u_co_X6_wouldHouse
theorem hd_X6_wouldHouse : yX6_wouldHouse.cls ≠ "java/lang/invoke/MethodHandle" ∧ yX6_wouldHouse.cls ≠ "java/lang/invoke/VarHandle" ∧ (parseMethodDescriptor yX6_wouldHouse.desc).map (fun d => d.parameters.length) = some 0 := by decide +kernel
theorem g_L_329 : GoodIn x_U (wsV RL 329 RX7 yX7_wouldHouse (x_ws yX7_wouldHouse cX7_wouldHouse 2 (some .int))) := x_gV u_ml_L_329 u_in_X7_wouldHouse u_se_X7_wouldHouse u_ini_X7 u_co_X7_wouldHouse
theorem hd_X7_wouldHouse : yX7_wouldHouse.cls ≠ "java/lang/invoke/MethodHandle" ∧ yX7_wouldHouse.cls ≠ "java/lang/invoke/VarHandle" ∧ (parseMethodDescriptor yX7_wouldHouse.desc).map (fun d => d.parameters.length) = some 0 := by decide +kernel
theorem g_L_330 : GoodIn x_U (wsV RL 330 RX6 yX6_leasedShare (x_ws yX6_leasedShare cX6_leasedShare 1 (some .double))) := x_gV u_ml_L_330 u_in_X6_leasedShare u_se_X6_leasedShare u_ini_X6 u_co_X6_leasedShare
theorem hd_X6_leasedShare : yX6_leasedShare.cls ≠ "java/lang/invoke/MethodHandle" ∧ yX6_leasedShare.cls ≠ "java/lang/invoke/VarHandle" ∧ (parseMethodDescriptor yX6_leasedShare.desc).map (fun d => d.parameters.length) = some 0 := by decide +kernel
theorem g_L_334 : GoodIn x_U (wsV RL 334 RX7 yX7_leasedShare (x_ws yX7_leasedShare cX7_leasedShare 1 (some .double))) := x_gV u_ml_L_334 u_in_X7_leasedShare u_se_X7_leasedShare u_ini_X7 u_co_X7_leasedShare
theorem hd_X7_leasedShare : yX7_leasedShare.cls ≠ "java/lang/invoke/MethodHandle" ∧ yX7_leasedShare.cls ≠ "java/lang/invoke/VarHandle" ∧ (parseMethodDescriptor yX7_leasedShare.desc).map (fun d => d.parameters.length) = some 0 := by decide +kernel
theorem g_L_335 : GoodIn x_U (wsV RL 335 RX6 yX6_digest (x_ws yX6_digest cX6_digest 3 (some .long))) := x_gV u_ml_L_335 u_in_X6_digest u_se_X6_digest u_ini_X6 u_co_X6_digest
theorem hd_X6_digest : yX6_digest.cls ≠ "java/lang/invoke/MethodHandle" ∧ yX6_digest.cls ≠ "java/lang/invoke/VarHandle" ∧ (parseMethodDescriptor yX6_digest.desc).map (fun d => d.parameters.length) = some 0 := by decide +kernel
theorem g_L_339 : GoodIn x_U (wsV RL 339 RX7 yX7_digest (x_ws yX7_digest cX7_digest 6 (some .long))) := x_gV u_ml_L_339 u_in_X7_digest u_se_X7_digest u_ini_X7 u_co_X7_digest
theorem hd_X7_digest : yX7_digest.cls ≠ "java/lang/invoke/MethodHandle" ∧ yX7_digest.cls ≠ "java/lang/invoke/VarHandle" ∧ (parseMethodDescriptor yX7_digest.desc).map (fun d => d.parameters.length) = some 0 := by decide +kernel
theorem gw_L_132 : GoodIn x_U (va_wsS RL 132 yL_seek (xl_ws yL_seek cL_seek 4 (some .int) [(0, 9, 12, 13), (0, 9, 15, 15)])) := xl_gS u_ml_L_132 u_st_L_seek u_ini_L u_cw_L_seek
theorem gw_L_141 : GoodIn x_U (va_wsS RL 141 yL_leave (xl_ws yL_leave cL_leave 4 (some .int) [(0, 9, 12, 13), (0, 9, 15, 15)])) := xl_gS u_ml_L_141 u_st_L_leave u_ini_L u_cw_L_leave
theorem gw_L_144 : GoodIn x_U (va_wsS RL 144 yL_giveUp (xl_ws yL_giveUp cL_giveUp 4 (some .int) [(0, 9, 12, 13), (0, 9, 15, 15)])) := xl_gS u_ml_L_144 u_st_L_giveUp u_ini_L u_cw_L_giveUp
theorem gw_L_147 : GoodIn x_U (va_wsS RL 147 yL_renew (xl_ws yL_renew cL_renew 4 (some .int) [(0, 9, 12, 13), (0, 9, 15, 15)])) := xl_gS u_ml_L_147 u_st_L_renew u_ini_L u_cw_L_renew
theorem gw_L_150 : GoodIn x_U (va_wsS RL 150 yL_reserve (xl_ws yL_reserve cL_reserve 4 (some .int) [(0, 6, 9, 13), (0, 6, 12, 15)])) := xl_gS u_ml_L_150 u_st_L_reserve u_ini_L u_cw_L_reserve
theorem gw_L_154 : GoodIn x_U (va_wsS RL 154 yL_unreserve (xl_ws yL_unreserve cL_unreserve 4 (some .int) [(0, 9, 12, 13), (0, 9, 15, 15)])) := xl_gS u_ml_L_154 u_st_L_unreserve u_ini_L u_cw_L_unreserve
theorem gw_L_157 : GoodIn x_U (va_wsS RL 157 yL_turnGhost (xl_ws yL_turnGhost cL_turnGhost 4 (some .int) [(0, 16, 19, 13)])) := xl_gS u_ml_L_157 u_st_L_turnGhost u_ini_L u_cw_L_turnGhost
theorem gw_L_160 : GoodIn x_U (va_wsS RL 160 yL_changeLease (xl_ws yL_changeLease cL_changeLease 4 (some .int) [(0, 9, 12, 40)])) := xl_gS u_ml_L_160 u_st_L_changeLease u_ini_L u_cw_L_changeLease
theorem gw_L_163 : GoodIn x_U (va_wsS RL 163 yL_changeHold (xl_ws yL_changeHold cL_changeHold 4 (some .int) [(0, 9, 12, 40)])) := xl_gS u_ml_L_163 u_st_L_changeHold u_ini_L u_cw_L_changeHold
theorem gw_L_166 : GoodIn x_U (va_wsS RL 166 yL_changeShut (xl_ws yL_changeShut cL_changeShut 4 (some .int) [(0, 9, 12, 40)])) := xl_gS u_ml_L_166 u_st_L_changeShut u_ini_L u_cw_L_changeShut
theorem gw_L_169 : GoodIn x_U (va_wsS RL 169 yL_deliver (xl_ws yL_deliver cL_deliver 4 (some .int) [(0, 9, 12, 13)])) := xl_gS u_ml_L_169 u_st_L_deliver u_ini_L u_cw_L_deliver
theorem gw_L_172 : GoodIn x_U (va_wsS RL 172 yL_lose (xl_ws yL_lose cL_lose 4 (some .int) [(0, 9, 12, 13)])) := xl_gS u_ml_L_172 u_st_L_lose u_ini_L u_cw_L_lose
theorem gw_L_179 : GoodIn x_U (va_wsS RL 179 yL_tick (xl_ws yL_tick cL_tick 4 (some .int) [(0, 9, 12, 40)])) := xl_gS u_ml_L_179 u_st_L_tick u_ini_L u_cw_L_tick
theorem gw_L_182 : GoodIn x_U (va_wsS RL 182 yL_append (xl_ws yL_append cL_append 4 (some .int) [(0, 9, 12, 40), (0, 9, 15, 15)])) := xl_gS u_ml_L_182 u_st_L_append u_ini_L u_cw_L_append
theorem gw_L_193 : GoodIn x_U (va_wsS RL 193 yL_play (xl_ws yL_play cL_play 3 (some .int) [(0, 8, 11, 40), (0, 8, 14, 15)])) := xl_gS u_ml_L_193 u_st_L_play u_ini_L u_cw_L_play
theorem gw_L_197 : GoodIn x_U (va_wsS RL 197 yL_keep (xl_ws yL_keep cL_keep 3 (some .int) [(0, 5, 8, 40)])) := xl_gS u_ml_L_197 u_st_L_keep u_ini_L u_cw_L_keep
theorem gw_L_201 : GoodIn x_U (va_wsS RL 201 yL_goBack (xl_ws yL_goBack cL_goBack 3 (some .int) [(0, 5, 8, 40), (0, 5, 11, 15)])) := xl_gS u_ml_L_201 u_st_L_goBack u_ini_L u_cw_L_goBack
theorem gw_L_204 : GoodIn x_U (va_wsS RL 204 yL_undo (xl_ws yL_undo cL_undo 2 (some .int) [(0, 4, 7, 15)])) := xl_gS u_ml_L_204 u_st_L_undo u_ini_L u_cw_L_undo
theorem gw_L_212 : GoodIn x_U (va_wsS RL 212 yL_doingOf (xl_ws yL_doingOf cL_doingOf 4 (some .int) [(0, 9, 12, 13)])) := xl_gS u_ml_L_212 u_st_L_doingOf u_ini_L u_cw_L_doingOf
theorem gw_L_215 : GoodIn x_U (va_wsS RL 215 yL_roomOf (xl_ws yL_roomOf cL_roomOf 4 (some .int) [(0, 9, 12, 13), (0, 9, 15, 15)])) := xl_gS u_ml_L_215 u_st_L_roomOf u_ini_L u_cw_L_roomOf
theorem gw_L_218 : GoodIn x_U (va_wsS RL 218 yL_ticksLeft (xl_ws yL_ticksLeft cL_ticksLeft 4 (some .int) [(0, 9, 12, 13), (0, 9, 15, 15)])) := xl_gS u_ml_L_218 u_st_L_ticksLeft u_ini_L u_cw_L_ticksLeft
theorem gw_L_221 : GoodIn x_U (va_wsS RL 221 yL_ticksToRenewal (xl_ws yL_ticksToRenewal cL_ticksToRenewal 4 (some .int) [(0, 9, 12, 13), (0, 9, 15, 15)])) := xl_gS u_ml_L_221 u_st_L_ticksToRenewal u_ini_L u_cw_L_ticksToRenewal
theorem gw_L_224 : GoodIn x_U (va_wsS RL 224 yL_isHaunted (xl_ws yL_isHaunted cL_isHaunted 4 (some .int) [(0, 16, 19, 13)])) := xl_gS u_ml_L_224 u_st_L_isHaunted u_ini_L u_cw_L_isHaunted
theorem gw_L_227 : GoodIn x_U (va_wsS RL 227 yL_staysOf (xl_ws yL_staysOf cL_staysOf 4 (some .int) [(0, 9, 12, 13)])) := xl_gS u_ml_L_227 u_st_L_staysOf u_ini_L u_cw_L_staysOf
theorem gw_L_234 : GoodIn x_U (va_wsS RL 234 yL_stateOf (xl_ws yL_stateOf cL_stateOf 4 (some .int) [(0, 9, 12, 13)])) := xl_gS u_ml_L_234 u_st_L_stateOf u_ini_L u_cw_L_stateOf
theorem gw_L_237 : GoodIn x_U (va_wsS RL 237 yL_guestOf (xl_ws yL_guestOf cL_guestOf 4 (some .int) [(0, 9, 12, 13), (0, 9, 15, 15)])) := xl_gS u_ml_L_237 u_st_L_guestOf u_ini_L u_cw_L_guestOf
theorem gw_L_240 : GoodIn x_U (va_wsS RL 240 yL_ticksOf (xl_ws yL_ticksOf cL_ticksOf 4 (some .int) [(0, 9, 12, 13), (0, 9, 15, 15)])) := xl_gS u_ml_L_240 u_st_L_ticksOf u_ini_L u_cw_L_ticksOf
theorem gw_L_243 : GoodIn x_U (va_wsS RL 243 yL_reservedFor (xl_ws yL_reservedFor cL_reservedFor 4 (some .int) [(0, 9, 12, 13), (0, 9, 15, 15)])) := xl_gS u_ml_L_243 u_st_L_reservedFor u_ini_L u_cw_L_reservedFor
theorem gw_L_246 : GoodIn x_U (va_wsS RL 246 yL_hasGhost (xl_ws yL_hasGhost cL_hasGhost 4 (some .int) [(0, 16, 19, 13)])) := xl_gS u_ml_L_246 u_st_L_hasGhost u_ini_L u_cw_L_hasGhost
theorem gw_L_249 : GoodIn x_U (va_wsS RL 249 yL_roomFor (xl_ws yL_roomFor cL_roomFor 4 (some .int) [(0, 9, 12, 13), (0, 9, 15, 15)])) := xl_gS u_ml_L_249 u_st_L_roomFor u_ini_L u_cw_L_roomFor
theorem gw_L_264 : GoodIn x_U (va_wsS RL 264 yL_nextFreeByRooms (xl_ws yL_nextFreeByRooms cL_nextFreeByRooms 3 (some .int) [(0, 8, 11, 15)])) := xl_gS u_ml_L_264 u_st_L_nextFreeByRooms u_ini_L u_cw_L_nextFreeByRooms
theorem gw_L_267 : GoodIn x_U (va_wsS RL 267 yL_nextFreeByTicks (xl_ws yL_nextFreeByTicks cL_nextFreeByTicks 3 (some .int) [(0, 8, 11, 15)])) := xl_gS u_ml_L_267 u_st_L_nextFreeByTicks u_ini_L u_cw_L_nextFreeByTicks
theorem gw_L_286 : GoodIn x_U (va_wsS RL 286 yL_kindAt (xl_ws yL_kindAt cL_kindAt 4 (some .int) [(0, 9, 12, 13)])) := xl_gS u_ml_L_286 u_st_L_kindAt u_ini_L u_cw_L_kindAt
theorem gw_L_289 : GoodIn x_U (va_wsS RL 289 yL_guestAt (xl_ws yL_guestAt cL_guestAt 4 (some .int) [(0, 9, 12, 13)])) := xl_gS u_ml_L_289 u_st_L_guestAt u_ini_L u_cw_L_guestAt
theorem gw_L_292 : GoodIn x_U (va_wsS RL 292 yL_roomAt (xl_ws yL_roomAt cL_roomAt 4 (some .int) [(0, 9, 12, 13), (0, 9, 15, 15)])) := xl_gS u_ml_L_292 u_st_L_roomAt u_ini_L u_cw_L_roomAt
theorem gw_L_299 : GoodIn x_U (va_wsS RL 299 yL_sent (xl_ws yL_sent cL_sent 4 (some .int) [(0, 9, 12, 40)])) := xl_gS u_ml_L_299 u_st_L_sent u_ini_L u_cw_L_sent
