set_option maxRecDepth 20000 in
theorem wn_LW : Cond.initialized "RiddleMillLaw" ∈ gWS := gin 0 rfl rfl
set_option maxRecDepth 20000 in
theorem wn_RM : Cond.initialized "RiddleMill" ∈ gWS := gin 1 rfl rfl
set_option maxRecDepth 20000 in
theorem wn_JM : Cond.initialized "java/lang/Math" ∈ gWS := gin 2 rfl rfl
set_option maxRecDepth 20000 in
theorem wn_CL : Cond.initialized "RiddleMill$ClueList" ∈ gWS := gin 3 rfl rfl
set_option maxRecDepth 20000 in
theorem wn_WO : Cond.initialized "RiddleMill$Worlds" ∈ gWS := gin 4 rfl rfl
set_option maxRecDepth 20000 in
theorem wn_PR : Cond.initialized "RiddleMill$Proof" ∈ gWS := gin 5 rfl rfl
set_option maxRecDepth 20000 in
theorem wn_MA : Cond.initialized "RiddleMill$Maker" ∈ gWS := gin 6 rfl rfl
set_option maxRecDepth 20000 in
theorem wn_SP : Cond.initialized "RiddleMill$Speech" ∈ gWS := gin 7 rfl rfl
set_option maxRecDepth 20000 in
theorem wn_RF : Cond.initialized "RiddleMillModel" ∈ gWS := gin 8 rfl rfl
set_option maxRecDepth 20000 in
theorem wn_CO : Cond.initialized "RiddleMill$Code" ∈ gWS := gin 9 rfl rfl
set_option maxRecDepth 20000 in
theorem wn_JT : Cond.initialized "java/lang/Throwable" ∈ gWS := gin 10 rfl rfl
set_option maxRecDepth 20000 in
theorem wn_JE : Cond.initialized "java/lang/Exception" ∈ gWS := gin 11 rfl rfl
set_option maxRecDepth 20000 in
theorem wn_JR : Cond.initialized "java/lang/RuntimeException" ∈ gWS := gin 12 rfl rfl
set_option maxRecDepth 20000 in
theorem wn_JA : Cond.initialized "java/lang/IllegalArgumentException" ∈ gWS := gin 13 rfl rfl
set_option maxRecDepth 20000 in
theorem wn_JX : Cond.initialized "java/lang/IllegalStateException" ∈ gWS := gin 14 rfl rfl
set_option maxRecDepth 20000 in
theorem wn_JB : Cond.initialized "java/lang/IndexOutOfBoundsException" ∈ gWS := gin 15 rfl rfl
set_option maxRecDepth 20000 in
theorem wn_JI : Cond.initialized "java/lang/Integer" ∈ gWS := gin 16 rfl rfl
set_option maxRecDepth 20000 in
theorem wn_JS : Cond.initialized "java/lang/System" ∈ gWS := gin 17 rfl rfl
set_option maxRecDepth 20000 in
theorem wl_LW_45 : Cond.methodLink "RiddleMillLaw" 45 mRM_init.1 ∈ gWS := gin 20 rfl rfl
set_option maxRecDepth 20000 in
theorem wi_RM_init : Cond.instanceMethod mRM_init.1 ∈ gWS := gin 21 rfl rfl
set_option maxRecDepth 20000 in
theorem wc_RM_init : Cond.code mRM_init.1 mRM_init.2.1 mRM_init.2.2.1 mRM_init.2.2.2 ∈ gWS := gin 22 rfl rfl
set_option maxRecDepth 20000 in
theorem wl_RM_1 : Cond.methodLink "RiddleMill" 1 mJO_init.1 ∈ gWS := gin 23 rfl rfl
set_option maxRecDepth 20000 in
theorem wi_JO_init : Cond.instanceMethod mJO_init.1 ∈ gWS := gin 24 rfl rfl
set_option maxRecDepth 20000 in
theorem wc_JO_init : Cond.code mJO_init.1 mJO_init.2.1 mJO_init.2.2.1 mJO_init.2.2.2 ∈ gWS := gin 25 rfl rfl
set_option maxRecDepth 20000 in
theorem wl_RM_7 : Cond.methodLink "RiddleMill" 7 mJM_min.1 ∈ gWS := gin 26 rfl rfl
set_option maxRecDepth 20000 in
theorem wt_JM_min : Cond.static mJM_min.1 ∈ gWS := gin 27 rfl rfl
set_option maxRecDepth 20000 in
theorem wc_JM_min : Cond.code mJM_min.1 mJM_min.2.1 mJM_min.2.2.1 mJM_min.2.2.2 ∈ gWS := gin 28 rfl rfl
set_option maxRecDepth 20000 in
theorem wl_RM_13 : Cond.methodLink "RiddleMill" 13 mJM_max.1 ∈ gWS := gin 29 rfl rfl
set_option maxRecDepth 20000 in
theorem wt_JM_max : Cond.static mJM_max.1 ∈ gWS := gin 30 rfl rfl
set_option maxRecDepth 20000 in
theorem wc_JM_max : Cond.code mJM_max.1 mJM_max.2.1 mJM_max.2.2.1 mJM_max.2.2.2 ∈ gWS := gin 31 rfl rfl
set_option maxRecDepth 20000 in
theorem wi_CL_init : Cond.instanceMethod mCL_init.1 ∈ gWS := gin 35 rfl rfl
set_option maxRecDepth 20000 in
theorem wc_CL_init : Cond.code mCL_init.1 mCL_init.2.1 mCL_init.2.2.1 mCL_init.2.2.2 ∈ gWS := gin 36 rfl rfl
set_option maxRecDepth 20000 in
theorem wl_CL_3 : Cond.methodLink "RiddleMill$ClueList" 3 mJO_init.1 ∈ gWS := gin 37 rfl rfl
set_option maxRecDepth 20000 in
theorem wl_RM_34 : Cond.methodLink "RiddleMill" 34 mWO_init.1 ∈ gWS := gin 55 rfl rfl
set_option maxRecDepth 20000 in
theorem wi_WO_init : Cond.instanceMethod mWO_init.1 ∈ gWS := gin 56 rfl rfl
set_option maxRecDepth 20000 in
theorem wc_WO_init : Cond.code mWO_init.1 mWO_init.2.1 mWO_init.2.2.1 mWO_init.2.2.2 ∈ gWS := gin 57 rfl rfl
set_option maxRecDepth 20000 in
theorem wl_WO_3 : Cond.methodLink "RiddleMill$Worlds" 3 mJO_init.1 ∈ gWS := gin 58 rfl rfl
set_option maxRecDepth 20000 in
theorem wl_RM_43 : Cond.methodLink "RiddleMill" 43 mPR_init.1 ∈ gWS := gin 107 rfl rfl
set_option maxRecDepth 20000 in
theorem wi_PR_init : Cond.instanceMethod mPR_init.1 ∈ gWS := gin 108 rfl rfl
set_option maxRecDepth 20000 in
theorem wc_PR_init : Cond.code mPR_init.1 mPR_init.2.1 mPR_init.2.2.1 mPR_init.2.2.2 ∈ gWS := gin 109 rfl rfl
set_option maxRecDepth 20000 in
theorem wl_PR_3 : Cond.methodLink "RiddleMill$Proof" 3 mJO_init.1 ∈ gWS := gin 110 rfl rfl
set_option maxRecDepth 20000 in
theorem wl_RM_53 : Cond.methodLink "RiddleMill" 53 mMA_init.1 ∈ gWS := gin 152 rfl rfl
set_option maxRecDepth 20000 in
theorem wi_MA_init : Cond.instanceMethod mMA_init.1 ∈ gWS := gin 153 rfl rfl
set_option maxRecDepth 20000 in
theorem wc_MA_init : Cond.code mMA_init.1 mMA_init.2.1 mMA_init.2.2.1 mMA_init.2.2.2 ∈ gWS := gin 154 rfl rfl
set_option maxRecDepth 20000 in
theorem wl_MA_3 : Cond.methodLink "RiddleMill$Maker" 3 mJO_init.1 ∈ gWS := gin 155 rfl rfl
set_option maxRecDepth 20000 in
theorem wi_SP_init : Cond.instanceMethod mSP_init.1 ∈ gWS := gin 184 rfl rfl
set_option maxRecDepth 20000 in
theorem wc_SP_init : Cond.code mSP_init.1 mSP_init.2.1 mSP_init.2.2.1 mSP_init.2.2.2 ∈ gWS := gin 185 rfl rfl
set_option maxRecDepth 20000 in
theorem wl_SP_3 : Cond.methodLink "RiddleMill$Speech" 3 mJO_init.1 ∈ gWS := gin 186 rfl rfl
set_option maxRecDepth 20000 in
theorem wl_LW_62 : Cond.methodLink "RiddleMillLaw" 62 mRM_clueAt.1 ∈ gWS := gin 251 rfl rfl
set_option maxRecDepth 20000 in
theorem wi_RM_clueAt : Cond.instanceMethod mRM_clueAt.1 ∈ gWS := gin 252 rfl rfl
set_option maxRecDepth 20000 in
theorem ws_RM_clueAt : Cond.selects mRM_clueAt.1.cls mRM_clueAt.1 mRM_clueAt.1 ∈ gWS := gin 253 rfl rfl
set_option maxRecDepth 20000 in
theorem wc_RM_clueAt : Cond.code mRM_clueAt.1 mRM_clueAt.2.1 mRM_clueAt.2.2.1 mRM_clueAt.2.2.2 ∈ gWS := gin 254 rfl rfl
set_option maxRecDepth 20000 in
theorem wl_RM_86 : Cond.methodLink "RiddleMill" 86 mCL_has.1 ∈ gWS := gin 255 rfl rfl
set_option maxRecDepth 20000 in
theorem wi_CL_has : Cond.instanceMethod mCL_has.1 ∈ gWS := gin 256 rfl rfl
set_option maxRecDepth 20000 in
theorem ws_CL_has : Cond.selects mCL_has.1.cls mCL_has.1 mCL_has.1 ∈ gWS := gin 257 rfl rfl
set_option maxRecDepth 20000 in
theorem wc_CL_has : Cond.code mCL_has.1 mCL_has.2.1 mCL_has.2.2.1 mCL_has.2.2.2 ∈ gWS := gin 258 rfl rfl
set_option maxRecDepth 20000 in
theorem wl_RM_103 : Cond.methodLink "RiddleMill" 103 mCO_kind.1 ∈ gWS := gin 259 rfl rfl
set_option maxRecDepth 20000 in
theorem wt_CO_kind : Cond.static mCO_kind.1 ∈ gWS := gin 260 rfl rfl
set_option maxRecDepth 20000 in
theorem wc_CO_kind : Cond.code mCO_kind.1 mCO_kind.2.1 mCO_kind.2.2.1 mCO_kind.2.2.2 ∈ gWS := gin 261 rfl rfl
set_option maxRecDepth 20000 in
theorem wl_RM_106 : Cond.methodLink "RiddleMill" 106 mCO_x.1 ∈ gWS := gin 262 rfl rfl
set_option maxRecDepth 20000 in
theorem wt_CO_x : Cond.static mCO_x.1 ∈ gWS := gin 263 rfl rfl
set_option maxRecDepth 20000 in
theorem wc_CO_x : Cond.code mCO_x.1 mCO_x.2.1 mCO_x.2.2.1 mCO_x.2.2.2 ∈ gWS := gin 264 rfl rfl
set_option maxRecDepth 20000 in
theorem wl_RM_109 : Cond.methodLink "RiddleMill" 109 mCO_y.1 ∈ gWS := gin 265 rfl rfl
set_option maxRecDepth 20000 in
theorem wt_CO_y : Cond.static mCO_y.1 ∈ gWS := gin 266 rfl rfl
set_option maxRecDepth 20000 in
theorem wc_CO_y : Cond.code mCO_y.1 mCO_y.2.1 mCO_y.2.2.1 mCO_y.2.2.2 ∈ gWS := gin 267 rfl rfl
set_option maxRecDepth 20000 in
theorem wl_RM_112 : Cond.methodLink "RiddleMill" 112 mCO_z.1 ∈ gWS := gin 268 rfl rfl
set_option maxRecDepth 20000 in
theorem wt_CO_z : Cond.static mCO_z.1 ∈ gWS := gin 269 rfl rfl
set_option maxRecDepth 20000 in
theorem wc_CO_z : Cond.code mCO_z.1 mCO_z.2.1 mCO_z.2.2.1 mCO_z.2.2.2 ∈ gWS := gin 270 rfl rfl
set_option maxRecDepth 20000 in
theorem wl_RM_115 : Cond.methodLink "RiddleMill" 115 mCO_d.1 ∈ gWS := gin 271 rfl rfl
set_option maxRecDepth 20000 in
theorem wt_CO_d : Cond.static mCO_d.1 ∈ gWS := gin 272 rfl rfl
set_option maxRecDepth 20000 in
theorem wc_CO_d : Cond.code mCO_d.1 mCO_d.2.1 mCO_d.2.2.1 mCO_d.2.2.2 ∈ gWS := gin 273 rfl rfl
set_option maxRecDepth 20000 in
theorem wl_RM_118 : Cond.methodLink "RiddleMill" 118 mCO_speaker.1 ∈ gWS := gin 274 rfl rfl
set_option maxRecDepth 20000 in
theorem wt_CO_speaker : Cond.static mCO_speaker.1 ∈ gWS := gin 275 rfl rfl
set_option maxRecDepth 20000 in
theorem wc_CO_speaker : Cond.code mCO_speaker.1 mCO_speaker.2.1 mCO_speaker.2.2.1 mCO_speaker.2.2.2 ∈ gWS := gin 276 rfl rfl
set_option maxRecDepth 20000 in
theorem wl_LW_70 : Cond.methodLink "RiddleMillLaw" 70 mRM_answer.1 ∈ gWS := gin 277 rfl rfl
set_option maxRecDepth 20000 in
theorem wi_RM_answer : Cond.instanceMethod mRM_answer.1 ∈ gWS := gin 278 rfl rfl
set_option maxRecDepth 20000 in
theorem ws_RM_answer : Cond.selects mRM_answer.1.cls mRM_answer.1 mRM_answer.1 ∈ gWS := gin 279 rfl rfl
set_option maxRecDepth 20000 in
theorem wc_RM_answer : Cond.code mRM_answer.1 mRM_answer.2.1 mRM_answer.2.2.1 mRM_answer.2.2.2 ∈ gWS := gin 280 rfl rfl
set_option maxRecDepth 20000 in
theorem wl_RM_127 : Cond.methodLink "RiddleMill" 127 mRM_isThing.1 ∈ gWS := gin 281 rfl rfl
set_option maxRecDepth 20000 in
theorem wi_RM_isThing : Cond.instanceMethod mRM_isThing.1 ∈ gWS := gin 283 rfl rfl
set_option maxRecDepth 20000 in
theorem wc_RM_isThing : Cond.code mRM_isThing.1 mRM_isThing.2.1 mRM_isThing.2.2.1 mRM_isThing.2.2.2 ∈ gWS := gin 284 rfl rfl
set_option maxRecDepth 20000 in
theorem wl_RM_130 : Cond.methodLink "RiddleMill" 130 mWO_alike.1 ∈ gWS := gin 285 rfl rfl
set_option maxRecDepth 20000 in
theorem wi_WO_alike : Cond.instanceMethod mWO_alike.1 ∈ gWS := gin 286 rfl rfl
set_option maxRecDepth 20000 in
theorem ws_WO_alike : Cond.selects mWO_alike.1.cls mWO_alike.1 mWO_alike.1 ∈ gWS := gin 287 rfl rfl
set_option maxRecDepth 20000 in
theorem wc_WO_alike : Cond.code mWO_alike.1 mWO_alike.2.1 mWO_alike.2.2.1 mWO_alike.2.2.2 ∈ gWS := gin 288 rfl rfl
set_option maxRecDepth 20000 in
theorem wl_WO_37 : Cond.methodLink "RiddleMill$Worlds" 37 mWO_prepare.1 ∈ gWS := gin 289 rfl rfl
set_option maxRecDepth 20000 in
theorem wi_WO_prepare : Cond.instanceMethod mWO_prepare.1 ∈ gWS := gin 291 rfl rfl
set_option maxRecDepth 20000 in
theorem wc_WO_prepare : Cond.code mWO_prepare.1 mWO_prepare.2.1 mWO_prepare.2.2.1 mWO_prepare.2.2.2 ∈ gWS := gin 292 rfl rfl
set_option maxRecDepth 20000 in
theorem wl_WO_92 : Cond.methodLink "RiddleMill$Worlds" 92 mWO_dueAt.1 ∈ gWS := gin 294 rfl rfl
set_option maxRecDepth 20000 in
theorem wi_WO_dueAt : Cond.instanceMethod mWO_dueAt.1 ∈ gWS := gin 296 rfl rfl
set_option maxRecDepth 20000 in
theorem wc_WO_dueAt : Cond.code mWO_dueAt.1 mWO_dueAt.2.1 mWO_dueAt.2.2.1 mWO_dueAt.2.2.2 ∈ gWS := gin 297 rfl rfl
set_option maxRecDepth 20000 in
theorem wl_WO_95 : Cond.methodLink "RiddleMill$Worlds" 95 mCO_x.1 ∈ gWS := gin 298 rfl rfl
set_option maxRecDepth 20000 in
theorem wl_WO_100 : Cond.methodLink "RiddleMill$Worlds" 100 mCO_y.1 ∈ gWS := gin 299 rfl rfl
set_option maxRecDepth 20000 in
theorem wl_WO_103 : Cond.methodLink "RiddleMill$Worlds" 103 mCO_z.1 ∈ gWS := gin 300 rfl rfl
set_option maxRecDepth 20000 in
theorem wl_WO_106 : Cond.methodLink "RiddleMill$Worlds" 106 mJM_max.1 ∈ gWS := gin 301 rfl rfl
set_option maxRecDepth 20000 in
theorem wl_WO_109 : Cond.methodLink "RiddleMill$Worlds" 109 mCO_kind.1 ∈ gWS := gin 302 rfl rfl
set_option maxRecDepth 20000 in
theorem wl_WO_112 : Cond.methodLink "RiddleMill$Worlds" 112 mCO_d.1 ∈ gWS := gin 303 rfl rfl
set_option maxRecDepth 20000 in
theorem wl_WO_44 : Cond.methodLink "RiddleMill$Worlds" 44 mWO_placeFrom.1 ∈ gWS := gin 304 rfl rfl
set_option maxRecDepth 20000 in
theorem wi_WO_placeFrom : Cond.instanceMethod mWO_placeFrom.1 ∈ gWS := gin 306 rfl rfl
set_option maxRecDepth 20000 in
theorem wc_WO_placeFrom : Cond.code mWO_placeFrom.1 mWO_placeFrom.2.1 mWO_placeFrom.2.2.1 mWO_placeFrom.2.2.2 ∈ gWS := gin 307 rfl rfl
set_option maxRecDepth 20000 in
theorem wl_WO_115 : Cond.methodLink "RiddleMill$Worlds" 115 mWO_take.1 ∈ gWS := gin 308 rfl rfl
set_option maxRecDepth 20000 in
theorem wi_WO_take : Cond.instanceMethod mWO_take.1 ∈ gWS := gin 310 rfl rfl
set_option maxRecDepth 20000 in
theorem wc_WO_take : Cond.code mWO_take.1 mWO_take.2.1 mWO_take.2.2.1 mWO_take.2.2.2 ∈ gWS := gin 311 rfl rfl
set_option maxRecDepth 20000 in
theorem wl_WO_73 : Cond.methodLink "RiddleMill$Worlds" 73 mJI_bitCount.1 ∈ gWS := gin 312 rfl rfl
set_option maxRecDepth 20000 in
theorem wt_JI_bitCount : Cond.static mJI_bitCount.1 ∈ gWS := gin 313 rfl rfl
set_option maxRecDepth 20000 in
theorem wc_JI_bitCount : Cond.code mJI_bitCount.1 mJI_bitCount.2.1 mJI_bitCount.2.2.1 mJI_bitCount.2.2.2 ∈ gWS := gin 314 rfl rfl
set_option maxRecDepth 20000 in
theorem wl_WO_69 : Cond.methodLink "RiddleMill$Worlds" 69 mWO_isMany.1 ∈ gWS := gin 318 rfl rfl
set_option maxRecDepth 20000 in
theorem wt_WO_isMany : Cond.static mWO_isMany.1 ∈ gWS := gin 319 rfl rfl
set_option maxRecDepth 20000 in
theorem wc_WO_isMany : Cond.code mWO_isMany.1 mWO_isMany.2.1 mWO_isMany.2.2.1 mWO_isMany.2.2.2 ∈ gWS := gin 320 rfl rfl
set_option maxRecDepth 20000 in
theorem wl_WO_119 : Cond.methodLink "RiddleMill$Worlds" 119 mWO_heard.1 ∈ gWS := gin 321 rfl rfl
set_option maxRecDepth 20000 in
theorem wi_WO_heard : Cond.instanceMethod mWO_heard.1 ∈ gWS := gin 323 rfl rfl
set_option maxRecDepth 20000 in
theorem wc_WO_heard : Cond.code mWO_heard.1 mWO_heard.2.1 mWO_heard.2.2.1 mWO_heard.2.2.2 ∈ gWS := gin 324 rfl rfl
set_option maxRecDepth 20000 in
theorem wl_WO_122 : Cond.methodLink "RiddleMill$Worlds" 122 mCO_isSo.1 ∈ gWS := gin 325 rfl rfl
set_option maxRecDepth 20000 in
theorem wt_CO_isSo : Cond.static mCO_isSo.1 ∈ gWS := gin 326 rfl rfl
set_option maxRecDepth 20000 in
theorem wc_CO_isSo : Cond.code mCO_isSo.1 mCO_isSo.2.1 mCO_isSo.2.2.1 mCO_isSo.2.2.2 ∈ gWS := gin 327 rfl rfl
set_option maxRecDepth 20000 in
theorem wl_WO_126 : Cond.methodLink "RiddleMill$Worlds" 126 mCO_speaker.1 ∈ gWS := gin 328 rfl rfl
set_option maxRecDepth 20000 in
theorem wl_LW_77 : Cond.methodLink "RiddleMillLaw" 77 mRM_prove.1 ∈ gWS := gin 329 rfl rfl
set_option maxRecDepth 20000 in
theorem wi_RM_prove : Cond.instanceMethod mRM_prove.1 ∈ gWS := gin 330 rfl rfl
set_option maxRecDepth 20000 in
theorem ws_RM_prove : Cond.selects mRM_prove.1.cls mRM_prove.1 mRM_prove.1 ∈ gWS := gin 331 rfl rfl
set_option maxRecDepth 20000 in
theorem wc_RM_prove : Cond.code mRM_prove.1 mRM_prove.2.1 mRM_prove.2.2.1 mRM_prove.2.2.2 ∈ gWS := gin 332 rfl rfl
set_option maxRecDepth 20000 in
theorem wl_RM_137 : Cond.methodLink "RiddleMill" 137 mPR_run.1 ∈ gWS := gin 333 rfl rfl
set_option maxRecDepth 20000 in
theorem wi_PR_run : Cond.instanceMethod mPR_run.1 ∈ gWS := gin 334 rfl rfl
set_option maxRecDepth 20000 in
theorem ws_PR_run : Cond.selects mPR_run.1.cls mPR_run.1 mPR_run.1 ∈ gWS := gin 335 rfl rfl
set_option maxRecDepth 20000 in
theorem wc_PR_run : Cond.code mPR_run.1 mPR_run.2.1 mPR_run.2.2.1 mPR_run.2.2.2 ∈ gWS := gin 336 rfl rfl
set_option maxRecDepth 20000 in
theorem wl_PR_44 : Cond.methodLink "RiddleMill$Proof" 44 mCO_thingAt.1 ∈ gWS := gin 337 rfl rfl
set_option maxRecDepth 20000 in
theorem wt_CO_thingAt : Cond.static mCO_thingAt.1 ∈ gWS := gin 338 rfl rfl
set_option maxRecDepth 20000 in
theorem wc_CO_thingAt : Cond.code mCO_thingAt.1 mCO_thingAt.2.1 mCO_thingAt.2.2.1 mCO_thingAt.2.2.2 ∈ gWS := gin 339 rfl rfl
set_option maxRecDepth 20000 in
theorem wl_PR_50 : Cond.methodLink "RiddleMill$Proof" 50 mPR_bySort.1 ∈ gWS := gin 340 rfl rfl
set_option maxRecDepth 20000 in
theorem wi_PR_bySort : Cond.instanceMethod mPR_bySort.1 ∈ gWS := gin 342 rfl rfl
set_option maxRecDepth 20000 in
theorem wc_PR_bySort : Cond.code mPR_bySort.1 mPR_bySort.2.1 mPR_bySort.2.2.1 mPR_bySort.2.2.2 ∈ gWS := gin 343 rfl rfl
set_option maxRecDepth 20000 in
theorem wl_PR_68 : Cond.methodLink "RiddleMill$Proof" 68 mPR_barred.1 ∈ gWS := gin 344 rfl rfl
set_option maxRecDepth 20000 in
theorem wi_PR_barred : Cond.instanceMethod mPR_barred.1 ∈ gWS := gin 346 rfl rfl
set_option maxRecDepth 20000 in
theorem wc_PR_barred : Cond.code mPR_barred.1 mPR_barred.2.1 mPR_barred.2.2.1 mPR_barred.2.2.2 ∈ gWS := gin 347 rfl rfl
set_option maxRecDepth 20000 in
theorem wl_PR_75 : Cond.methodLink "RiddleMill$Proof" 75 mPR_barredByLone.1 ∈ gWS := gin 348 rfl rfl
set_option maxRecDepth 20000 in
theorem wi_PR_barredByLone : Cond.instanceMethod mPR_barredByLone.1 ∈ gWS := gin 350 rfl rfl
set_option maxRecDepth 20000 in
theorem wc_PR_barredByLone : Cond.code mPR_barredByLone.1 mPR_barredByLone.2.1 mPR_barredByLone.2.2.1 mPR_barredByLone.2.2.2 ∈ gWS := gin 351 rfl rfl
set_option maxRecDepth 20000 in
theorem wl_PR_62 : Cond.methodLink "RiddleMill$Proof" 62 mJI_bitCount.1 ∈ gWS := gin 352 rfl rfl
set_option maxRecDepth 20000 in
theorem wl_PR_78 : Cond.methodLink "RiddleMill$Proof" 78 mPR_barredByOwn.1 ∈ gWS := gin 353 rfl rfl
set_option maxRecDepth 20000 in
theorem wi_PR_barredByOwn : Cond.instanceMethod mPR_barredByOwn.1 ∈ gWS := gin 355 rfl rfl
set_option maxRecDepth 20000 in
theorem wc_PR_barredByOwn : Cond.code mPR_barredByOwn.1 mPR_barredByOwn.2.1 mPR_barredByOwn.2.2.1 mPR_barredByOwn.2.2.2 ∈ gWS := gin 356 rfl rfl
set_option maxRecDepth 20000 in
theorem wl_PR_81 : Cond.methodLink "RiddleMill$Proof" 81 mPR_barredByPairs.1 ∈ gWS := gin 357 rfl rfl
set_option maxRecDepth 20000 in
theorem wi_PR_barredByPairs : Cond.instanceMethod mPR_barredByPairs.1 ∈ gWS := gin 359 rfl rfl
set_option maxRecDepth 20000 in
theorem wc_PR_barredByPairs : Cond.code mPR_barredByPairs.1 mPR_barredByPairs.2.1 mPR_barredByPairs.2.2.1 mPR_barredByPairs.2.2.2 ∈ gWS := gin 360 rfl rfl
set_option maxRecDepth 20000 in
theorem wl_PR_71 : Cond.methodLink "RiddleMill$Proof" 71 mPR_take.1 ∈ gWS := gin 361 rfl rfl
set_option maxRecDepth 20000 in
theorem wi_PR_take : Cond.instanceMethod mPR_take.1 ∈ gWS := gin 363 rfl rfl
set_option maxRecDepth 20000 in
theorem wc_PR_take : Cond.code mPR_take.1 mPR_take.2.1 mPR_take.2.2.1 mPR_take.2.2.2 ∈ gWS := gin 364 rfl rfl
set_option maxRecDepth 20000 in
theorem wl_PR_131 : Cond.methodLink "RiddleMill$Proof" 131 mJM_max.1 ∈ gWS := gin 365 rfl rfl
set_option maxRecDepth 20000 in
theorem wl_PR_54 : Cond.methodLink "RiddleMill$Proof" 54 mPR_byClues.1 ∈ gWS := gin 366 rfl rfl
set_option maxRecDepth 20000 in
theorem wi_PR_byClues : Cond.instanceMethod mPR_byClues.1 ∈ gWS := gin 368 rfl rfl
set_option maxRecDepth 20000 in
theorem wc_PR_byClues : Cond.code mPR_byClues.1 mPR_byClues.2.1 mPR_byClues.2.2.1 mPR_byClues.2.2.2 ∈ gWS := gin 369 rfl rfl
set_option maxRecDepth 20000 in
theorem wl_PR_92 : Cond.methodLink "RiddleMill$Proof" 92 mCO_speaker.1 ∈ gWS := gin 370 rfl rfl
set_option maxRecDepth 20000 in
theorem wl_PR_95 : Cond.methodLink "RiddleMill$Proof" 95 mCO_kind.1 ∈ gWS := gin 371 rfl rfl
set_option maxRecDepth 20000 in
theorem wl_PR_98 : Cond.methodLink "RiddleMill$Proof" 98 mCO_ruleOf.1 ∈ gWS := gin 372 rfl rfl
set_option maxRecDepth 20000 in
theorem wt_CO_ruleOf : Cond.static mCO_ruleOf.1 ∈ gWS := gin 373 rfl rfl
set_option maxRecDepth 20000 in
theorem wc_CO_ruleOf : Cond.code mCO_ruleOf.1 mCO_ruleOf.2.1 mCO_ruleOf.2.2.1 mCO_ruleOf.2.2.2 ∈ gWS := gin 374 rfl rfl
set_option maxRecDepth 20000 in
theorem wl_CO_9 : Cond.methodLink "RiddleMill$Code" 9 mCO_thingsOf.1 ∈ gWS := gin 375 rfl rfl
set_option maxRecDepth 20000 in
theorem wt_CO_thingsOf : Cond.static mCO_thingsOf.1 ∈ gWS := gin 376 rfl rfl
set_option maxRecDepth 20000 in
theorem wc_CO_thingsOf : Cond.code mCO_thingsOf.1 mCO_thingsOf.2.1 mCO_thingsOf.2.2.1 mCO_thingsOf.2.2.2 ∈ gWS := gin 377 rfl rfl
set_option maxRecDepth 20000 in
theorem wl_PR_101 : Cond.methodLink "RiddleMill$Proof" 101 mPR_byClue.1 ∈ gWS := gin 378 rfl rfl
set_option maxRecDepth 20000 in
theorem wi_PR_byClue : Cond.instanceMethod mPR_byClue.1 ∈ gWS := gin 380 rfl rfl
set_option maxRecDepth 20000 in
theorem wc_PR_byClue : Cond.code mPR_byClue.1 mPR_byClue.2.1 mPR_byClue.2.2.1 mPR_byClue.2.2.2 ∈ gWS := gin 381 rfl rfl
set_option maxRecDepth 20000 in
theorem wl_PR_105 : Cond.methodLink "RiddleMill$Proof" 105 mCO_thingAfter.1 ∈ gWS := gin 382 rfl rfl
set_option maxRecDepth 20000 in
theorem wt_CO_thingAfter : Cond.static mCO_thingAfter.1 ∈ gWS := gin 383 rfl rfl
set_option maxRecDepth 20000 in
theorem wc_CO_thingAfter : Cond.code mCO_thingAfter.1 mCO_thingAfter.2.1 mCO_thingAfter.2.2.1 mCO_thingAfter.2.2.2 ∈ gWS := gin 384 rfl rfl
set_option maxRecDepth 20000 in
theorem wl_CO_15 : Cond.methodLink "RiddleMill$Code" 15 mCO_x.1 ∈ gWS := gin 385 rfl rfl
set_option maxRecDepth 20000 in
theorem wl_CO_18 : Cond.methodLink "RiddleMill$Code" 18 mCO_y.1 ∈ gWS := gin 386 rfl rfl
set_option maxRecDepth 20000 in
theorem wl_CO_21 : Cond.methodLink "RiddleMill$Code" 21 mCO_z.1 ∈ gWS := gin 387 rfl rfl
set_option maxRecDepth 20000 in
theorem wl_PR_108 : Cond.methodLink "RiddleMill$Proof" 108 mPR_canBeSo.1 ∈ gWS := gin 388 rfl rfl
set_option maxRecDepth 20000 in
theorem wi_PR_canBeSo : Cond.instanceMethod mPR_canBeSo.1 ∈ gWS := gin 390 rfl rfl
set_option maxRecDepth 20000 in
theorem wc_PR_canBeSo : Cond.code mPR_canBeSo.1 mPR_canBeSo.2.1 mPR_canBeSo.2.2.1 mPR_canBeSo.2.2.2 ∈ gWS := gin 391 rfl rfl
set_option maxRecDepth 20000 in
theorem wl_PR_111 : Cond.methodLink "RiddleMill$Proof" 111 mCO_d.1 ∈ gWS := gin 392 rfl rfl
set_option maxRecDepth 20000 in
theorem wl_PR_114 : Cond.methodLink "RiddleMill$Proof" 114 mCO_x.1 ∈ gWS := gin 393 rfl rfl
set_option maxRecDepth 20000 in
theorem wl_PR_117 : Cond.methodLink "RiddleMill$Proof" 117 mCO_y.1 ∈ gWS := gin 394 rfl rfl
set_option maxRecDepth 20000 in
theorem wl_PR_120 : Cond.methodLink "RiddleMill$Proof" 120 mCO_z.1 ∈ gWS := gin 395 rfl rfl
set_option maxRecDepth 20000 in
theorem wl_PR_123 : Cond.methodLink "RiddleMill$Proof" 123 mPR_bitsFor.1 ∈ gWS := gin 396 rfl rfl
set_option maxRecDepth 20000 in
theorem wi_PR_bitsFor : Cond.instanceMethod mPR_bitsFor.1 ∈ gWS := gin 398 rfl rfl
set_option maxRecDepth 20000 in
theorem wc_PR_bitsFor : Cond.code mPR_bitsFor.1 mPR_bitsFor.2.1 mPR_bitsFor.2.2.1 mPR_bitsFor.2.2.2 ∈ gWS := gin 399 rfl rfl
set_option maxRecDepth 20000 in
theorem wl_PR_127 : Cond.methodLink "RiddleMill$Proof" 127 mCO_isSo.1 ∈ gWS := gin 400 rfl rfl
set_option maxRecDepth 20000 in
theorem wl_PR_58 : Cond.methodLink "RiddleMill$Proof" 58 mPR_isSolved.1 ∈ gWS := gin 401 rfl rfl
set_option maxRecDepth 20000 in
theorem wi_PR_isSolved : Cond.instanceMethod mPR_isSolved.1 ∈ gWS := gin 403 rfl rfl
set_option maxRecDepth 20000 in
theorem wc_PR_isSolved : Cond.code mPR_isSolved.1 mPR_isSolved.2.1 mPR_isSolved.2.2.1 mPR_isSolved.2.2.2 ∈ gWS := gin 404 rfl rfl
set_option maxRecDepth 20000 in
theorem wl_LW_81 : Cond.methodLink "RiddleMillLaw" 81 mRM_step.1 ∈ gWS := gin 405 rfl rfl
set_option maxRecDepth 20000 in
theorem wi_RM_step : Cond.instanceMethod mRM_step.1 ∈ gWS := gin 406 rfl rfl
set_option maxRecDepth 20000 in
theorem ws_RM_step : Cond.selects mRM_step.1.cls mRM_step.1 mRM_step.1 ∈ gWS := gin 407 rfl rfl
set_option maxRecDepth 20000 in
theorem wc_RM_step : Cond.code mRM_step.1 mRM_step.2.1 mRM_step.2.2.1 mRM_step.2.2.2 ∈ gWS := gin 408 rfl rfl
set_option maxRecDepth 20000 in
theorem wl_LW_85 : Cond.methodLink "RiddleMillLaw" 85 mRM_may.1 ∈ gWS := gin 409 rfl rfl
set_option maxRecDepth 20000 in
theorem wi_RM_may : Cond.instanceMethod mRM_may.1 ∈ gWS := gin 410 rfl rfl
set_option maxRecDepth 20000 in
theorem ws_RM_may : Cond.selects mRM_may.1.cls mRM_may.1 mRM_may.1 ∈ gWS := gin 411 rfl rfl
set_option maxRecDepth 20000 in
theorem wc_RM_may : Cond.code mRM_may.1 mRM_may.2.1 mRM_may.2.2.1 mRM_may.2.2.2 ∈ gWS := gin 412 rfl rfl
set_option maxRecDepth 20000 in
theorem wl_LW_89 : Cond.methodLink "RiddleMillLaw" 89 mRM_rating.1 ∈ gWS := gin 413 rfl rfl
set_option maxRecDepth 20000 in
theorem wi_RM_rating : Cond.instanceMethod mRM_rating.1 ∈ gWS := gin 414 rfl rfl
set_option maxRecDepth 20000 in
theorem ws_RM_rating : Cond.selects mRM_rating.1.cls mRM_rating.1 mRM_rating.1 ∈ gWS := gin 415 rfl rfl
set_option maxRecDepth 20000 in
theorem wc_RM_rating : Cond.code mRM_rating.1 mRM_rating.2.1 mRM_rating.2.2.1 mRM_rating.2.2.2 ∈ gWS := gin 416 rfl rfl
set_option maxRecDepth 20000 in
theorem wl_LW_99 : Cond.methodLink "RiddleMillLaw" 99 mRM_name.1 ∈ gWS := gin 417 rfl rfl
set_option maxRecDepth 20000 in
theorem wi_RM_name : Cond.instanceMethod mRM_name.1 ∈ gWS := gin 418 rfl rfl
set_option maxRecDepth 20000 in
theorem ws_RM_name : Cond.selects mRM_name.1.cls mRM_name.1 mRM_name.1 ∈ gWS := gin 419 rfl rfl
set_option maxRecDepth 20000 in
theorem wc_RM_name : Cond.code mRM_name.1 mRM_name.2.1 mRM_name.2.2.1 mRM_name.2.2.2 ∈ gWS := gin 420 rfl rfl
set_option maxRecDepth 20000 in
theorem wl_RM_175 : Cond.methodLink "RiddleMill" 175 mSP_giveName.1 ∈ gWS := gin 421 rfl rfl
set_option maxRecDepth 20000 in
theorem wi_SP_giveName : Cond.instanceMethod mSP_giveName.1 ∈ gWS := gin 422 rfl rfl
set_option maxRecDepth 20000 in
theorem ws_SP_giveName : Cond.selects mSP_giveName.1.cls mSP_giveName.1 mSP_giveName.1 ∈ gWS := gin 423 rfl rfl
set_option maxRecDepth 20000 in
theorem wc_SP_giveName : Cond.code mSP_giveName.1 mSP_giveName.2.1 mSP_giveName.2.2.1 mSP_giveName.2.2.2 ∈ gWS := gin 424 rfl rfl
set_option maxRecDepth 20000 in
theorem wl_SP_29 : Cond.methodLink "RiddleMill$Speech" 29 mSP_wordOf.1 ∈ gWS := gin 425 rfl rfl
set_option maxRecDepth 20000 in
theorem wt_SP_wordOf : Cond.static mSP_wordOf.1 ∈ gWS := gin 426 rfl rfl
set_option maxRecDepth 20000 in
theorem wc_SP_wordOf : Cond.code mSP_wordOf.1 mSP_wordOf.2.1 mSP_wordOf.2.2.1 mSP_wordOf.2.2.2 ∈ gWS := gin 427 rfl rfl
set_option maxRecDepth 20000 in
theorem wl_SP_35 : Cond.methodLink "RiddleMill$Speech" 35 mSP_isWord.1 ∈ gWS := gin 430 rfl rfl
set_option maxRecDepth 20000 in
theorem wt_SP_isWord : Cond.static mSP_isWord.1 ∈ gWS := gin 431 rfl rfl
set_option maxRecDepth 20000 in
theorem wc_SP_isWord : Cond.code mSP_isWord.1 mSP_isWord.2.1 mSP_isWord.2.2.1 mSP_isWord.2.2.2 ∈ gWS := gin 432 rfl rfl
set_option maxRecDepth 20000 in
theorem wl_SP_39 : Cond.methodLink "RiddleMill$Speech" 39 mSP_thingNamed.1 ∈ gWS := gin 435 rfl rfl
set_option maxRecDepth 20000 in
theorem wi_SP_thingNamed : Cond.instanceMethod mSP_thingNamed.1 ∈ gWS := gin 437 rfl rfl
set_option maxRecDepth 20000 in
theorem wc_SP_thingNamed : Cond.code mSP_thingNamed.1 mSP_thingNamed.2.1 mSP_thingNamed.2.2.1 mSP_thingNamed.2.2.2 ∈ gWS := gin 438 rfl rfl
set_option maxRecDepth 20000 in
theorem wl_LW_104 : Cond.methodLink "RiddleMillLaw" 104 mRM_print.1 ∈ gWS := gin 439 rfl rfl
set_option maxRecDepth 20000 in
theorem wi_RM_print : Cond.instanceMethod mRM_print.1 ∈ gWS := gin 440 rfl rfl
set_option maxRecDepth 20000 in
theorem ws_RM_print : Cond.selects mRM_print.1.cls mRM_print.1 mRM_print.1 ∈ gWS := gin 441 rfl rfl
set_option maxRecDepth 20000 in
theorem wc_RM_print : Cond.code mRM_print.1 mRM_print.2.1 mRM_print.2.2.1 mRM_print.2.2.2 ∈ gWS := gin 442 rfl rfl
set_option maxRecDepth 20000 in
theorem wl_RM_179 : Cond.methodLink "RiddleMill" 179 mSP_show.1 ∈ gWS := gin 443 rfl rfl
set_option maxRecDepth 20000 in
theorem wi_SP_show : Cond.instanceMethod mSP_show.1 ∈ gWS := gin 444 rfl rfl
set_option maxRecDepth 20000 in
theorem ws_SP_show : Cond.selects mSP_show.1.cls mSP_show.1 mSP_show.1 ∈ gWS := gin 445 rfl rfl
set_option maxRecDepth 20000 in
theorem wc_SP_show : Cond.code mSP_show.1 mSP_show.2.1 mSP_show.2.2.1 mSP_show.2.2.2 ∈ gWS := gin 446 rfl rfl
set_option maxRecDepth 20000 in
theorem wl_SP_48 : Cond.methodLink "RiddleMill$Speech" 48 mCO_x.1 ∈ gWS := gin 447 rfl rfl
set_option maxRecDepth 20000 in
theorem wl_SP_54 : Cond.methodLink "RiddleMill$Speech" 54 mSP_lacksName.1 ∈ gWS := gin 448 rfl rfl
set_option maxRecDepth 20000 in
theorem wi_SP_lacksName : Cond.instanceMethod mSP_lacksName.1 ∈ gWS := gin 450 rfl rfl
set_option maxRecDepth 20000 in
theorem wc_SP_lacksName : Cond.code mSP_lacksName.1 mSP_lacksName.2.1 mSP_lacksName.2.2.1 mSP_lacksName.2.2.2 ∈ gWS := gin 451 rfl rfl
set_option maxRecDepth 20000 in
theorem wl_SP_58 : Cond.methodLink "RiddleMill$Speech" 58 mCO_y.1 ∈ gWS := gin 452 rfl rfl
set_option maxRecDepth 20000 in
theorem wl_SP_61 : Cond.methodLink "RiddleMill$Speech" 61 mCO_z.1 ∈ gWS := gin 453 rfl rfl
set_option maxRecDepth 20000 in
theorem wl_SP_64 : Cond.methodLink "RiddleMill$Speech" 64 mCO_d.1 ∈ gWS := gin 454 rfl rfl
set_option maxRecDepth 20000 in
theorem wl_SP_70 : Cond.methodLink "RiddleMill$Speech" 70 mCO_speaker.1 ∈ gWS := gin 455 rfl rfl
set_option maxRecDepth 20000 in
theorem wl_SP_73 : Cond.methodLink "RiddleMill$Speech" 73 mSP_put.1 ∈ gWS := gin 456 rfl rfl
set_option maxRecDepth 20000 in
theorem wi_SP_put : Cond.instanceMethod mSP_put.1 ∈ gWS := gin 458 rfl rfl
set_option maxRecDepth 20000 in
theorem wc_SP_put : Cond.code mSP_put.1 mSP_put.2.1 mSP_put.2.2.1 mSP_put.2.2.2 ∈ gWS := gin 459 rfl rfl
set_option maxRecDepth 20000 in
theorem wl_SP_79 : Cond.methodLink "RiddleMill$Speech" 79 mSP_putWord.1 ∈ gWS := gin 461 rfl rfl
set_option maxRecDepth 20000 in
theorem wi_SP_putWord : Cond.instanceMethod mSP_putWord.1 ∈ gWS := gin 463 rfl rfl
set_option maxRecDepth 20000 in
theorem wc_SP_putWord : Cond.code mSP_putWord.1 mSP_putWord.2.1 mSP_putWord.2.2.1 mSP_putWord.2.2.2 ∈ gWS := gin 464 rfl rfl
set_option maxRecDepth 20000 in
theorem wl_SP_86 : Cond.methodLink "RiddleMill$Speech" 86 mCO_kind.1 ∈ gWS := gin 467 rfl rfl
set_option maxRecDepth 20000 in
theorem wl_LW_108 : Cond.methodLink "RiddleMillLaw" 108 mRM_shown.1 ∈ gWS := gin 469 rfl rfl
set_option maxRecDepth 20000 in
theorem wi_RM_shown : Cond.instanceMethod mRM_shown.1 ∈ gWS := gin 470 rfl rfl
set_option maxRecDepth 20000 in
theorem ws_RM_shown : Cond.selects mRM_shown.1.cls mRM_shown.1 mRM_shown.1 ∈ gWS := gin 471 rfl rfl
set_option maxRecDepth 20000 in
theorem wc_RM_shown : Cond.code mRM_shown.1 mRM_shown.2.1 mRM_shown.2.2.1 mRM_shown.2.2.2 ∈ gWS := gin 472 rfl rfl
set_option maxRecDepth 20000 in
theorem wl_LW_112 : Cond.methodLink "RiddleMillLaw" 112 mRM_type.1 ∈ gWS := gin 473 rfl rfl
set_option maxRecDepth 20000 in
theorem wi_RM_type : Cond.instanceMethod mRM_type.1 ∈ gWS := gin 474 rfl rfl
set_option maxRecDepth 20000 in
theorem ws_RM_type : Cond.selects mRM_type.1.cls mRM_type.1 mRM_type.1 ∈ gWS := gin 475 rfl rfl
set_option maxRecDepth 20000 in
theorem wc_RM_type : Cond.code mRM_type.1 mRM_type.2.1 mRM_type.2.2.1 mRM_type.2.2.2 ∈ gWS := gin 476 rfl rfl
set_option maxRecDepth 20000 in
theorem wl_RM_188 : Cond.methodLink "RiddleMill" 188 mSP_append.1 ∈ gWS := gin 477 rfl rfl
set_option maxRecDepth 20000 in
theorem wi_SP_append : Cond.instanceMethod mSP_append.1 ∈ gWS := gin 478 rfl rfl
set_option maxRecDepth 20000 in
theorem ws_SP_append : Cond.selects mSP_append.1.cls mSP_append.1 mSP_append.1 ∈ gWS := gin 479 rfl rfl
set_option maxRecDepth 20000 in
theorem wc_SP_append : Cond.code mSP_append.1 mSP_append.2.1 mSP_append.2.2.1 mSP_append.2.2.2 ∈ gWS := gin 480 rfl rfl
set_option maxRecDepth 20000 in
theorem wl_LW_121 : Cond.methodLink "RiddleMillLaw" 121 mRM_fault.1 ∈ gWS := gin 481 rfl rfl
set_option maxRecDepth 20000 in
theorem wi_RM_fault : Cond.instanceMethod mRM_fault.1 ∈ gWS := gin 482 rfl rfl
set_option maxRecDepth 20000 in
theorem ws_RM_fault : Cond.selects mRM_fault.1.cls mRM_fault.1 mRM_fault.1 ∈ gWS := gin 483 rfl rfl
set_option maxRecDepth 20000 in
theorem wc_RM_fault : Cond.code mRM_fault.1 mRM_fault.2.1 mRM_fault.2.2.1 mRM_fault.2.2.2 ∈ gWS := gin 484 rfl rfl
set_option maxRecDepth 20000 in
theorem wl_LW_125 : Cond.methodLink "RiddleMillLaw" 125 mRM_about.1 ∈ gWS := gin 485 rfl rfl
set_option maxRecDepth 20000 in
theorem wi_RM_about : Cond.instanceMethod mRM_about.1 ∈ gWS := gin 486 rfl rfl
set_option maxRecDepth 20000 in
theorem ws_RM_about : Cond.selects mRM_about.1.cls mRM_about.1 mRM_about.1 ∈ gWS := gin 487 rfl rfl
set_option maxRecDepth 20000 in
theorem wc_RM_about : Cond.code mRM_about.1 mRM_about.2.1 mRM_about.2.2.1 mRM_about.2.2.2 ∈ gWS := gin 488 rfl rfl
set_option maxRecDepth 20000 in
theorem wl_LW_39 : Cond.methodLink "RiddleMillLaw" 39 mLW_cell.1 ∈ gWS := gin 489 rfl rfl
set_option maxRecDepth 20000 in
theorem wt_LW_cell : Cond.static mLW_cell.1 ∈ gWS := gin 490 rfl rfl
set_option maxRecDepth 20000 in
theorem wc_LW_cell : Cond.code mLW_cell.1 mLW_cell.2.1 mLW_cell.2.2.1 mLW_cell.2.2.2 ∈ gWS := gin 491 rfl rfl
set_option maxRecDepth 20000 in
theorem wl_LW_7 : Cond.methodLink "RiddleMillLaw" 7 mRM_clue.1 ∈ gWS := gin 497 rfl rfl
set_option maxRecDepth 20000 in
theorem wi_RM_clue : Cond.instanceMethod mRM_clue.1 ∈ gWS := gin 498 rfl rfl
set_option maxRecDepth 20000 in
theorem ws_RM_clue : Cond.selects mRM_clue.1.cls mRM_clue.1 mRM_clue.1 ∈ gWS := gin 499 rfl rfl
set_option maxRecDepth 20000 in
theorem wc_RM_clue : Cond.code mRM_clue.1 mRM_clue.2.1 mRM_clue.2.2.1 mRM_clue.2.2.2 ∈ gWS := gin 500 rfl rfl
set_option maxRecDepth 20000 in
theorem wl_RM_65 : Cond.methodLink "RiddleMill" 65 mRM_isAsTold.1 ∈ gWS := gin 501 rfl rfl
set_option maxRecDepth 20000 in
theorem wi_RM_isAsTold : Cond.instanceMethod mRM_isAsTold.1 ∈ gWS := gin 503 rfl rfl
set_option maxRecDepth 20000 in
theorem wc_RM_isAsTold : Cond.code mRM_isAsTold.1 mRM_isAsTold.2.1 mRM_isAsTold.2.2.1 mRM_isAsTold.2.2.2 ∈ gWS := gin 504 rfl rfl
set_option maxRecDepth 20000 in
theorem wl_RM_218 : Cond.methodLink "RiddleMill" 218 mCO_thingsOf.1 ∈ gWS := gin 505 rfl rfl
set_option maxRecDepth 20000 in
theorem wl_RM_221 : Cond.methodLink "RiddleMill" 221 mCO_leastD.1 ∈ gWS := gin 506 rfl rfl
set_option maxRecDepth 20000 in
theorem wt_CO_leastD : Cond.static mCO_leastD.1 ∈ gWS := gin 507 rfl rfl
set_option maxRecDepth 20000 in
theorem wc_CO_leastD : Cond.code mCO_leastD.1 mCO_leastD.2.1 mCO_leastD.2.2.1 mCO_leastD.2.2.2 ∈ gWS := gin 508 rfl rfl
set_option maxRecDepth 20000 in
theorem wl_RM_224 : Cond.methodLink "RiddleMill" 224 mCO_greatestD.1 ∈ gWS := gin 509 rfl rfl
set_option maxRecDepth 20000 in
theorem wt_CO_greatestD : Cond.static mCO_greatestD.1 ∈ gWS := gin 510 rfl rfl
set_option maxRecDepth 20000 in
theorem wc_CO_greatestD : Cond.code mCO_greatestD.1 mCO_greatestD.2.1 mCO_greatestD.2.2.1 mCO_greatestD.2.2.2 ∈ gWS := gin 511 rfl rfl
set_option maxRecDepth 20000 in
theorem wi_JT_init : Cond.instanceMethod mJT_init.1 ∈ gWS := gin 535 rfl rfl
set_option maxRecDepth 20000 in
theorem wc_JT_init : Cond.code mJT_init.1 mJT_init.2.1 mJT_init.2.2.1 mJT_init.2.2.2 ∈ gWS := gin 536 rfl rfl
set_option maxRecDepth 20000 in
theorem wl_JT_1 : Cond.methodLink "java/lang/Throwable" 1 mJO_init.1 ∈ gWS := gin 537 rfl rfl
set_option maxRecDepth 20000 in
theorem wl_RM_73 : Cond.methodLink "RiddleMill" 73 mJA_init.1 ∈ gWS := gin 554 rfl rfl
set_option maxRecDepth 20000 in
theorem wi_JA_init : Cond.instanceMethod mJA_init.1 ∈ gWS := gin 555 rfl rfl
set_option maxRecDepth 20000 in
theorem wc_JA_init : Cond.code mJA_init.1 mJA_init.2.1 mJA_init.2.2.1 mJA_init.2.2.2 ∈ gWS := gin 556 rfl rfl
set_option maxRecDepth 20000 in
theorem wl_JA_7 : Cond.methodLink "java/lang/IllegalArgumentException" 7 mJR_init.1 ∈ gWS := gin 557 rfl rfl
set_option maxRecDepth 20000 in
theorem wi_JR_init : Cond.instanceMethod mJR_init.1 ∈ gWS := gin 558 rfl rfl
set_option maxRecDepth 20000 in
theorem wc_JR_init : Cond.code mJR_init.1 mJR_init.2.1 mJR_init.2.2.1 mJR_init.2.2.2 ∈ gWS := gin 559 rfl rfl
set_option maxRecDepth 20000 in
theorem wl_JR_7 : Cond.methodLink "java/lang/RuntimeException" 7 mJE_init.1 ∈ gWS := gin 560 rfl rfl
set_option maxRecDepth 20000 in
theorem wi_JE_init : Cond.instanceMethod mJE_init.1 ∈ gWS := gin 561 rfl rfl
set_option maxRecDepth 20000 in
theorem wc_JE_init : Cond.code mJE_init.1 mJE_init.2.1 mJE_init.2.2.1 mJE_init.2.2.2 ∈ gWS := gin 562 rfl rfl
set_option maxRecDepth 20000 in
theorem wl_JE_7 : Cond.methodLink "java/lang/Exception" 7 mJT_init2.1 ∈ gWS := gin 563 rfl rfl
set_option maxRecDepth 20000 in
theorem wi_JT_init2 : Cond.instanceMethod mJT_init2.1 ∈ gWS := gin 564 rfl rfl
set_option maxRecDepth 20000 in
theorem wc_JT_init2 : Cond.code mJT_init2.1 mJT_init2.2.1 mJT_init2.2.2.1 mJT_init2.2.2.2 ∈ gWS := gin 565 rfl rfl
set_option maxRecDepth 20000 in
theorem wl_RM_76 : Cond.methodLink "RiddleMill" 76 mCO_of.1 ∈ gWS := gin 580 rfl rfl
set_option maxRecDepth 20000 in
theorem wt_CO_of : Cond.static mCO_of.1 ∈ gWS := gin 581 rfl rfl
set_option maxRecDepth 20000 in
theorem wc_CO_of : Cond.code mCO_of.1 mCO_of.2.1 mCO_of.2.2.1 mCO_of.2.2.2 ∈ gWS := gin 582 rfl rfl
set_option maxRecDepth 20000 in
theorem wl_RM_82 : Cond.methodLink "RiddleMill" 82 mRM_added.1 ∈ gWS := gin 583 rfl rfl
set_option maxRecDepth 20000 in
theorem wi_RM_added : Cond.instanceMethod mRM_added.1 ∈ gWS := gin 585 rfl rfl
set_option maxRecDepth 20000 in
theorem wc_RM_added : Cond.code mRM_added.1 mRM_added.2.1 mRM_added.2.2.1 mRM_added.2.2.2 ∈ gWS := gin 586 rfl rfl
set_option maxRecDepth 20000 in
theorem wl_RM_207 : Cond.methodLink "RiddleMill" 207 mCL_contains.1 ∈ gWS := gin 587 rfl rfl
set_option maxRecDepth 20000 in
theorem wi_CL_contains : Cond.instanceMethod mCL_contains.1 ∈ gWS := gin 588 rfl rfl
set_option maxRecDepth 20000 in
theorem ws_CL_contains : Cond.selects mCL_contains.1.cls mCL_contains.1 mCL_contains.1 ∈ gWS := gin 589 rfl rfl
set_option maxRecDepth 20000 in
theorem wc_CL_contains : Cond.code mCL_contains.1 mCL_contains.2.1 mCL_contains.2.2.1 mCL_contains.2.2.2 ∈ gWS := gin 590 rfl rfl
set_option maxRecDepth 20000 in
theorem wl_RM_214 : Cond.methodLink "RiddleMill" 214 mJX_init.1 ∈ gWS := gin 601 rfl rfl
set_option maxRecDepth 20000 in
theorem wi_JX_init : Cond.instanceMethod mJX_init.1 ∈ gWS := gin 602 rfl rfl
set_option maxRecDepth 20000 in
theorem wc_JX_init : Cond.code mJX_init.1 mJX_init.2.1 mJX_init.2.2.1 mJX_init.2.2.2 ∈ gWS := gin 603 rfl rfl
set_option maxRecDepth 20000 in
theorem wl_JX_7 : Cond.methodLink "java/lang/IllegalStateException" 7 mJR_init.1 ∈ gWS := gin 604 rfl rfl
set_option maxRecDepth 20000 in
theorem wl_RM_215 : Cond.methodLink "RiddleMill" 215 mCL_add.1 ∈ gWS := gin 607 rfl rfl
set_option maxRecDepth 20000 in
theorem wi_CL_add : Cond.instanceMethod mCL_add.1 ∈ gWS := gin 608 rfl rfl
set_option maxRecDepth 20000 in
theorem ws_CL_add : Cond.selects mCL_add.1.cls mCL_add.1 mCL_add.1 ∈ gWS := gin 609 rfl rfl
set_option maxRecDepth 20000 in
theorem wc_CL_add : Cond.code mCL_add.1 mCL_add.2.1 mCL_add.2.2.1 mCL_add.2.2.2 ∈ gWS := gin 610 rfl rfl
set_option maxRecDepth 20000 in
theorem wl_LW_17 : Cond.methodLink "RiddleMillLaw" 17 mRM_drop.1 ∈ gWS := gin 615 rfl rfl
set_option maxRecDepth 20000 in
theorem wi_RM_drop : Cond.instanceMethod mRM_drop.1 ∈ gWS := gin 616 rfl rfl
set_option maxRecDepth 20000 in
theorem ws_RM_drop : Cond.selects mRM_drop.1.cls mRM_drop.1 mRM_drop.1 ∈ gWS := gin 617 rfl rfl
set_option maxRecDepth 20000 in
theorem wc_RM_drop : Cond.code mRM_drop.1 mRM_drop.2.1 mRM_drop.2.2.1 mRM_drop.2.2.2 ∈ gWS := gin 618 rfl rfl
set_option maxRecDepth 20000 in
theorem wl_RM_94 : Cond.methodLink "RiddleMill" 94 mJB_init.1 ∈ gWS := gin 629 rfl rfl
set_option maxRecDepth 20000 in
theorem wi_JB_init : Cond.instanceMethod mJB_init.1 ∈ gWS := gin 630 rfl rfl
set_option maxRecDepth 20000 in
theorem wc_JB_init : Cond.code mJB_init.1 mJB_init.2.1 mJB_init.2.2.1 mJB_init.2.2.2 ∈ gWS := gin 631 rfl rfl
set_option maxRecDepth 20000 in
theorem wl_JB_7 : Cond.methodLink "java/lang/IndexOutOfBoundsException" 7 mJR_init.1 ∈ gWS := gin 632 rfl rfl
set_option maxRecDepth 20000 in
theorem wl_RM_95 : Cond.methodLink "RiddleMill" 95 mCL_removeAt.1 ∈ gWS := gin 635 rfl rfl
set_option maxRecDepth 20000 in
theorem wi_CL_removeAt : Cond.instanceMethod mCL_removeAt.1 ∈ gWS := gin 636 rfl rfl
set_option maxRecDepth 20000 in
theorem ws_CL_removeAt : Cond.selects mCL_removeAt.1.cls mCL_removeAt.1 mCL_removeAt.1 ∈ gWS := gin 637 rfl rfl
set_option maxRecDepth 20000 in
theorem wc_CL_removeAt : Cond.code mCL_removeAt.1 mCL_removeAt.2.1 mCL_removeAt.2.2.1 mCL_removeAt.2.2.2 ∈ gWS := gin 638 rfl rfl
set_option maxRecDepth 20000 in
theorem wl_CL_19 : Cond.methodLink "RiddleMill$ClueList" 19 mCL_has.1 ∈ gWS := gin 639 rfl rfl
set_option maxRecDepth 20000 in
theorem wl_LW_23 : Cond.methodLink "RiddleMillLaw" 23 mRM_count.1 ∈ gWS := gin 643 rfl rfl
set_option maxRecDepth 20000 in
theorem wi_RM_count : Cond.instanceMethod mRM_count.1 ∈ gWS := gin 644 rfl rfl
set_option maxRecDepth 20000 in
theorem ws_RM_count : Cond.selects mRM_count.1.cls mRM_count.1 mRM_count.1 ∈ gWS := gin 645 rfl rfl
set_option maxRecDepth 20000 in
theorem wc_RM_count : Cond.code mRM_count.1 mRM_count.2.1 mRM_count.2.2.1 mRM_count.2.2.2 ∈ gWS := gin 646 rfl rfl
set_option maxRecDepth 20000 in
theorem wl_RM_123 : Cond.methodLink "RiddleMill" 123 mWO_number.1 ∈ gWS := gin 648 rfl rfl
set_option maxRecDepth 20000 in
theorem wi_WO_number : Cond.instanceMethod mWO_number.1 ∈ gWS := gin 649 rfl rfl
set_option maxRecDepth 20000 in
theorem ws_WO_number : Cond.selects mWO_number.1.cls mWO_number.1 mWO_number.1 ∈ gWS := gin 650 rfl rfl
set_option maxRecDepth 20000 in
theorem wc_WO_number : Cond.code mWO_number.1 mWO_number.2.1 mWO_number.2.2.1 mWO_number.2.2.2 ∈ gWS := gin 651 rfl rfl
set_option maxRecDepth 20000 in
theorem wl_WO_51 : Cond.methodLink "RiddleMill$Worlds" 51 mJM_min.1 ∈ gWS := gin 652 rfl rfl
set_option maxRecDepth 20000 in
theorem wl_LW_27 : Cond.methodLink "RiddleMillLaw" 27 mRM_needed.1 ∈ gWS := gin 656 rfl rfl
set_option maxRecDepth 20000 in
theorem wi_RM_needed : Cond.instanceMethod mRM_needed.1 ∈ gWS := gin 657 rfl rfl
set_option maxRecDepth 20000 in
theorem ws_RM_needed : Cond.selects mRM_needed.1.cls mRM_needed.1 mRM_needed.1 ∈ gWS := gin 658 rfl rfl
set_option maxRecDepth 20000 in
theorem wc_RM_needed : Cond.code mRM_needed.1 mRM_needed.2.1 mRM_needed.2.2.1 mRM_needed.2.2.2 ∈ gWS := gin 659 rfl rfl
set_option maxRecDepth 20000 in
theorem wl_RM_133 : Cond.methodLink "RiddleMill" 133 mWO_differ.1 ∈ gWS := gin 660 rfl rfl
set_option maxRecDepth 20000 in
theorem wi_WO_differ : Cond.instanceMethod mWO_differ.1 ∈ gWS := gin 661 rfl rfl
set_option maxRecDepth 20000 in
theorem ws_WO_differ : Cond.selects mWO_differ.1.cls mWO_differ.1 mWO_differ.1 ∈ gWS := gin 662 rfl rfl
set_option maxRecDepth 20000 in
theorem wc_WO_differ : Cond.code mWO_differ.1 mWO_differ.2.1 mWO_differ.2.2.1 mWO_differ.2.2.2 ∈ gWS := gin 663 rfl rfl
set_option maxRecDepth 20000 in
theorem wl_LW_31 : Cond.methodLink "RiddleMillLaw" 31 mRM_make.1 ∈ gWS := gin 667 rfl rfl
set_option maxRecDepth 20000 in
theorem wi_RM_make : Cond.instanceMethod mRM_make.1 ∈ gWS := gin 668 rfl rfl
set_option maxRecDepth 20000 in
theorem ws_RM_make : Cond.selects mRM_make.1.cls mRM_make.1 mRM_make.1 ∈ gWS := gin 669 rfl rfl
set_option maxRecDepth 20000 in
theorem wc_RM_make : Cond.code mRM_make.1 mRM_make.2.1 mRM_make.2.2.1 mRM_make.2.2.2 ∈ gWS := gin 670 rfl rfl
set_option maxRecDepth 20000 in
theorem wl_RM_165 : Cond.methodLink "RiddleMill" 165 mMA_find.1 ∈ gWS := gin 673 rfl rfl
set_option maxRecDepth 20000 in
theorem wi_MA_find : Cond.instanceMethod mMA_find.1 ∈ gWS := gin 674 rfl rfl
set_option maxRecDepth 20000 in
theorem ws_MA_find : Cond.selects mMA_find.1.cls mMA_find.1 mMA_find.1 ∈ gWS := gin 675 rfl rfl
set_option maxRecDepth 20000 in
theorem wc_MA_find : Cond.code mMA_find.1 mMA_find.2.1 mMA_find.2.2.1 mMA_find.2.2.2 ∈ gWS := gin 676 rfl rfl
set_option maxRecDepth 20000 in
theorem wl_MA_36 : Cond.methodLink "RiddleMill$Maker" 36 mMA_drawWorld.1 ∈ gWS := gin 677 rfl rfl
set_option maxRecDepth 20000 in
theorem wi_MA_drawWorld : Cond.instanceMethod mMA_drawWorld.1 ∈ gWS := gin 679 rfl rfl
set_option maxRecDepth 20000 in
theorem wc_MA_drawWorld : Cond.code mMA_drawWorld.1 mMA_drawWorld.2.1 mMA_drawWorld.2.2.1 mMA_drawWorld.2.2.2 ∈ gWS := gin 680 rfl rfl
set_option maxRecDepth 20000 in
theorem wl_MA_78 : Cond.methodLink "RiddleMill$Maker" 78 mCO_thingAt.1 ∈ gWS := gin 681 rfl rfl
set_option maxRecDepth 20000 in
theorem wl_MA_84 : Cond.methodLink "RiddleMill$Maker" 84 mMA_draw.1 ∈ gWS := gin 682 rfl rfl
set_option maxRecDepth 20000 in
theorem wi_MA_draw : Cond.instanceMethod mMA_draw.1 ∈ gWS := gin 684 rfl rfl
set_option maxRecDepth 20000 in
theorem wc_MA_draw : Cond.code mMA_draw.1 mMA_draw.2.1 mMA_draw.2.2.1 mMA_draw.2.2.2 ∈ gWS := gin 685 rfl rfl
set_option maxRecDepth 20000 in
theorem wl_MA_39 : Cond.methodLink "RiddleMill$Maker" 39 mMA_gather.1 ∈ gWS := gin 688 rfl rfl
set_option maxRecDepth 20000 in
theorem wi_MA_gather : Cond.instanceMethod mMA_gather.1 ∈ gWS := gin 690 rfl rfl
set_option maxRecDepth 20000 in
theorem wc_MA_gather : Cond.code mMA_gather.1 mMA_gather.2.1 mMA_gather.2.2.1 mMA_gather.2.2.2 ∈ gWS := gin 691 rfl rfl
set_option maxRecDepth 20000 in
theorem wl_MA_88 : Cond.methodLink "RiddleMill$Maker" 88 mMA_gatherFor.1 ∈ gWS := gin 692 rfl rfl
set_option maxRecDepth 20000 in
theorem wi_MA_gatherFor : Cond.instanceMethod mMA_gatherFor.1 ∈ gWS := gin 694 rfl rfl
set_option maxRecDepth 20000 in
theorem wc_MA_gatherFor : Cond.code mMA_gatherFor.1 mMA_gatherFor.2.1 mMA_gatherFor.2.2.1 mMA_gatherFor.2.2.2 ∈ gWS := gin 695 rfl rfl
set_option maxRecDepth 20000 in
theorem wl_MA_92 : Cond.methodLink "RiddleMill$Maker" 92 mMA_consider.1 ∈ gWS := gin 696 rfl rfl
set_option maxRecDepth 20000 in
theorem wi_MA_consider : Cond.instanceMethod mMA_consider.1 ∈ gWS := gin 698 rfl rfl
set_option maxRecDepth 20000 in
theorem wc_MA_consider : Cond.code mMA_consider.1 mMA_consider.2.1 mMA_consider.2.2.1 mMA_consider.2.2.2 ∈ gWS := gin 699 rfl rfl
set_option maxRecDepth 20000 in
theorem wl_MA_100 : Cond.methodLink "RiddleMill$Maker" 100 mCO_leastD.1 ∈ gWS := gin 700 rfl rfl
set_option maxRecDepth 20000 in
theorem wl_MA_103 : Cond.methodLink "RiddleMill$Maker" 103 mCO_greatestD.1 ∈ gWS := gin 701 rfl rfl
set_option maxRecDepth 20000 in
theorem wl_MA_107 : Cond.methodLink "RiddleMill$Maker" 107 mCO_isSo.1 ∈ gWS := gin 702 rfl rfl
set_option maxRecDepth 20000 in
theorem wl_MA_111 : Cond.methodLink "RiddleMill$Maker" 111 mCO_of.1 ∈ gWS := gin 703 rfl rfl
set_option maxRecDepth 20000 in
theorem wl_MA_96 : Cond.methodLink "RiddleMill$Maker" 96 mMA_isPair.1 ∈ gWS := gin 704 rfl rfl
set_option maxRecDepth 20000 in
theorem wt_MA_isPair : Cond.static mMA_isPair.1 ∈ gWS := gin 705 rfl rfl
set_option maxRecDepth 20000 in
theorem wc_MA_isPair : Cond.code mMA_isPair.1 mMA_isPair.2.1 mMA_isPair.2.2.1 mMA_isPair.2.2.2 ∈ gWS := gin 706 rfl rfl
set_option maxRecDepth 20000 in
theorem wl_MA_42 : Cond.methodLink "RiddleMill$Maker" 42 mMA_mix.1 ∈ gWS := gin 707 rfl rfl
set_option maxRecDepth 20000 in
theorem wi_MA_mix : Cond.instanceMethod mMA_mix.1 ∈ gWS := gin 709 rfl rfl
set_option maxRecDepth 20000 in
theorem wc_MA_mix : Cond.code mMA_mix.1 mMA_mix.2.1 mMA_mix.2.2.1 mMA_mix.2.2.2 ∈ gWS := gin 710 rfl rfl
set_option maxRecDepth 20000 in
theorem wl_MA_51 : Cond.methodLink "RiddleMill$Maker" 51 mCL_add.1 ∈ gWS := gin 711 rfl rfl
set_option maxRecDepth 20000 in
theorem wl_MA_55 : Cond.methodLink "RiddleMill$Maker" 55 mWO_differ.1 ∈ gWS := gin 712 rfl rfl
set_option maxRecDepth 20000 in
theorem wl_MA_61 : Cond.methodLink "RiddleMill$Maker" 61 mMA_thinOut.1 ∈ gWS := gin 713 rfl rfl
set_option maxRecDepth 20000 in
theorem wi_MA_thinOut : Cond.instanceMethod mMA_thinOut.1 ∈ gWS := gin 715 rfl rfl
set_option maxRecDepth 20000 in
theorem wc_MA_thinOut : Cond.code mMA_thinOut.1 mMA_thinOut.2.1 mMA_thinOut.2.2.1 mMA_thinOut.2.2.2 ∈ gWS := gin 716 rfl rfl
set_option maxRecDepth 20000 in
theorem wl_MA_115 : Cond.methodLink "RiddleMill$Maker" 115 mCL_removeAt.1 ∈ gWS := gin 717 rfl rfl
set_option maxRecDepth 20000 in
theorem wl_MA_65 : Cond.methodLink "RiddleMill$Maker" 65 mPR_run.1 ∈ gWS := gin 718 rfl rfl
set_option maxRecDepth 20000 in
theorem wl_RM_172 : Cond.methodLink "RiddleMill" 172 mCL_takeAll.1 ∈ gWS := gin 719 rfl rfl
set_option maxRecDepth 20000 in
theorem wi_CL_takeAll : Cond.instanceMethod mCL_takeAll.1 ∈ gWS := gin 720 rfl rfl
set_option maxRecDepth 20000 in
theorem ws_CL_takeAll : Cond.selects mCL_takeAll.1.cls mCL_takeAll.1 mCL_takeAll.1 ∈ gWS := gin 721 rfl rfl
set_option maxRecDepth 20000 in
theorem wc_CL_takeAll : Cond.code mCL_takeAll.1 mCL_takeAll.2.1 mCL_takeAll.2.2.1 mCL_takeAll.2.2.2 ∈ gWS := gin 722 rfl rfl
set_option maxRecDepth 20000 in
theorem wl_LW_35 : Cond.methodLink "RiddleMillLaw" 35 mRM_read.1 ∈ gWS := gin 729 rfl rfl
set_option maxRecDepth 20000 in
theorem wi_RM_read : Cond.instanceMethod mRM_read.1 ∈ gWS := gin 730 rfl rfl
set_option maxRecDepth 20000 in
theorem ws_RM_read : Cond.selects mRM_read.1.cls mRM_read.1 mRM_read.1 ∈ gWS := gin 731 rfl rfl
set_option maxRecDepth 20000 in
theorem wc_RM_read : Cond.code mRM_read.1 mRM_read.2.1 mRM_read.2.2.1 mRM_read.2.2.2 ∈ gWS := gin 732 rfl rfl
set_option maxRecDepth 20000 in
theorem wl_RM_192 : Cond.methodLink "RiddleMill" 192 mSP_parse.1 ∈ gWS := gin 733 rfl rfl
set_option maxRecDepth 20000 in
theorem wi_SP_parse : Cond.instanceMethod mSP_parse.1 ∈ gWS := gin 734 rfl rfl
set_option maxRecDepth 20000 in
theorem ws_SP_parse : Cond.selects mSP_parse.1.cls mSP_parse.1 mSP_parse.1 ∈ gWS := gin 735 rfl rfl
set_option maxRecDepth 20000 in
theorem wc_SP_parse : Cond.code mSP_parse.1 mSP_parse.2.1 mSP_parse.2.2.1 mSP_parse.2.2.2 ∈ gWS := gin 736 rfl rfl
set_option maxRecDepth 20000 in
theorem wl_SP_100 : Cond.methodLink "RiddleMill$Speech" 100 mSP_readSpeaker.1 ∈ gWS := gin 737 rfl rfl
set_option maxRecDepth 20000 in
theorem wi_SP_readSpeaker : Cond.instanceMethod mSP_readSpeaker.1 ∈ gWS := gin 739 rfl rfl
set_option maxRecDepth 20000 in
theorem wc_SP_readSpeaker : Cond.code mSP_readSpeaker.1 mSP_readSpeaker.2.1 mSP_readSpeaker.2.2.1 mSP_readSpeaker.2.2.2 ∈ gWS := gin 740 rfl rfl
set_option maxRecDepth 20000 in
theorem wl_SP_108 : Cond.methodLink "RiddleMill$Speech" 108 mSP_readWord.1 ∈ gWS := gin 741 rfl rfl
set_option maxRecDepth 20000 in
theorem wi_SP_readWord : Cond.instanceMethod mSP_readWord.1 ∈ gWS := gin 743 rfl rfl
set_option maxRecDepth 20000 in
theorem wc_SP_readWord : Cond.code mSP_readWord.1 mSP_readWord.2.1 mSP_readWord.2.2.1 mSP_readWord.2.2.2 ∈ gWS := gin 744 rfl rfl
set_option maxRecDepth 20000 in
theorem wl_SP_104 : Cond.methodLink "RiddleMill$Speech" 104 mSP_isEnded.1 ∈ gWS := gin 747 rfl rfl
set_option maxRecDepth 20000 in
theorem wi_SP_isEnded : Cond.instanceMethod mSP_isEnded.1 ∈ gWS := gin 749 rfl rfl
set_option maxRecDepth 20000 in
theorem wc_SP_isEnded : Cond.code mSP_isEnded.1 mSP_isEnded.2.1 mSP_isEnded.2.2.1 mSP_isEnded.2.2.2 ∈ gWS := gin 750 rfl rfl
set_option maxRecDepth 20000 in
theorem wl_SP_129 : Cond.methodLink "RiddleMill$Speech" 129 mCO_of.1 ∈ gWS := gin 751 rfl rfl
set_option maxRecDepth 20000 in
theorem wl_SP_112 : Cond.methodLink "RiddleMill$Speech" 112 mSP_goingOn.1 ∈ gWS := gin 752 rfl rfl
set_option maxRecDepth 20000 in
theorem wi_SP_goingOn : Cond.instanceMethod mSP_goingOn.1 ∈ gWS := gin 754 rfl rfl
set_option maxRecDepth 20000 in
theorem wc_SP_goingOn : Cond.code mSP_goingOn.1 mSP_goingOn.2.1 mSP_goingOn.2.2.1 mSP_goingOn.2.2.2 ∈ gWS := gin 755 rfl rfl
set_option maxRecDepth 20000 in
theorem wl_SP_123 : Cond.methodLink "RiddleMill$Speech" 123 mSP_meaning.1 ∈ gWS := gin 756 rfl rfl
set_option maxRecDepth 20000 in
theorem wi_SP_meaning : Cond.instanceMethod mSP_meaning.1 ∈ gWS := gin 758 rfl rfl
set_option maxRecDepth 20000 in
theorem wc_SP_meaning : Cond.code mSP_meaning.1 mSP_meaning.2.1 mSP_meaning.2.2.1 mSP_meaning.2.2.2 ∈ gWS := gin 759 rfl rfl
set_option maxRecDepth 20000 in
theorem wl_LW_50 : Cond.methodLink "RiddleMillLaw" 50 mRF_init.1 ∈ gWS := gin 764 rfl rfl
set_option maxRecDepth 20000 in
theorem wi_RF_init : Cond.instanceMethod mRF_init.1 ∈ gWS := gin 765 rfl rfl
set_option maxRecDepth 20000 in
theorem wc_RF_init : Cond.code mRF_init.1 mRF_init.2.1 mRF_init.2.2.1 mRF_init.2.2.2 ∈ gWS := gin 766 rfl rfl
set_option maxRecDepth 20000 in
theorem wl_RF_1 : Cond.methodLink "RiddleMillModel" 1 mJO_init.1 ∈ gWS := gin 767 rfl rfl
set_option maxRecDepth 20000 in
theorem wl_LW_55 : Cond.methodLink "RiddleMillLaw" 55 mRF_thrown.1 ∈ gWS := gin 883 rfl rfl
set_option maxRecDepth 20000 in
theorem wi_RF_thrown : Cond.instanceMethod mRF_thrown.1 ∈ gWS := gin 884 rfl rfl
set_option maxRecDepth 20000 in
theorem ws_RF_thrown : Cond.selects mRF_thrown.1.cls mRF_thrown.1 mRF_thrown.1 ∈ gWS := gin 885 rfl rfl
set_option maxRecDepth 20000 in
theorem wc_RF_thrown : Cond.code mRF_thrown.1 mRF_thrown.2.1 mRF_thrown.2.2.1 mRF_thrown.2.2.2 ∈ gWS := gin 886 rfl rfl
set_option maxRecDepth 20000 in
theorem wl_LW_54 : Cond.methodLink "RiddleMillLaw" 54 mRF_clue.1 ∈ gWS := gin 887 rfl rfl
set_option maxRecDepth 20000 in
theorem wi_RF_clue : Cond.instanceMethod mRF_clue.1 ∈ gWS := gin 888 rfl rfl
set_option maxRecDepth 20000 in
theorem ws_RF_clue : Cond.selects mRF_clue.1.cls mRF_clue.1 mRF_clue.1 ∈ gWS := gin 889 rfl rfl
set_option maxRecDepth 20000 in
theorem wc_RF_clue : Cond.code mRF_clue.1 mRF_clue.2.1 mRF_clue.2.2.1 mRF_clue.2.2.2 ∈ gWS := gin 890 rfl rfl
set_option maxRecDepth 20000 in
theorem wl_RF_104 : Cond.methodLink "RiddleMillModel" 104 mRF_isClue.1 ∈ gWS := gin 891 rfl rfl
set_option maxRecDepth 20000 in
theorem wi_RF_isClue : Cond.instanceMethod mRF_isClue.1 ∈ gWS := gin 893 rfl rfl
set_option maxRecDepth 20000 in
theorem wc_RF_isClue : Cond.code mRF_isClue.1 mRF_isClue.2.1 mRF_isClue.2.2.1 mRF_isClue.2.2.2 ∈ gWS := gin 894 rfl rfl
set_option maxRecDepth 20000 in
theorem wl_RF_97 : Cond.methodLink "RiddleMillModel" 97 mRF_isThing.1 ∈ gWS := gin 895 rfl rfl
set_option maxRecDepth 20000 in
theorem wi_RF_isThing : Cond.instanceMethod mRF_isThing.1 ∈ gWS := gin 897 rfl rfl
set_option maxRecDepth 20000 in
theorem wc_RF_isThing : Cond.code mRF_isThing.1 mRF_isThing.2.1 mRF_isThing.2.2.1 mRF_isThing.2.2.2 ∈ gWS := gin 898 rfl rfl
set_option maxRecDepth 20000 in
theorem wl_RF_108 : Cond.methodLink "RiddleMillModel" 108 mRF_isThere.1 ∈ gWS := gin 899 rfl rfl
set_option maxRecDepth 20000 in
theorem wi_RF_isThere : Cond.instanceMethod mRF_isThere.1 ∈ gWS := gin 901 rfl rfl
set_option maxRecDepth 20000 in
theorem wc_RF_isThere : Cond.code mRF_isThere.1 mRF_isThere.2.1 mRF_isThere.2.2.1 mRF_isThere.2.2.2 ∈ gWS := gin 902 rfl rfl
set_option maxRecDepth 20000 in
theorem wl_RF_111 : Cond.methodLink "RiddleMillModel" 111 mRF_put.1 ∈ gWS := gin 903 rfl rfl
set_option maxRecDepth 20000 in
theorem wi_RF_put : Cond.instanceMethod mRF_put.1 ∈ gWS := gin 905 rfl rfl
set_option maxRecDepth 20000 in
theorem wc_RF_put : Cond.code mRF_put.1 mRF_put.2.1 mRF_put.2.2.1 mRF_put.2.2.2 ∈ gWS := gin 906 rfl rfl
set_option maxRecDepth 20000 in
theorem wl_LW_61 : Cond.methodLink "RiddleMillLaw" 61 mRF_drop.1 ∈ gWS := gin 907 rfl rfl
set_option maxRecDepth 20000 in
theorem wi_RF_drop : Cond.instanceMethod mRF_drop.1 ∈ gWS := gin 908 rfl rfl
set_option maxRecDepth 20000 in
theorem ws_RF_drop : Cond.selects mRF_drop.1.cls mRF_drop.1 mRF_drop.1 ∈ gWS := gin 909 rfl rfl
set_option maxRecDepth 20000 in
theorem wc_RF_drop : Cond.code mRF_drop.1 mRF_drop.2.1 mRF_drop.2.2.1 mRF_drop.2.2.2 ∈ gWS := gin 910 rfl rfl
set_option maxRecDepth 20000 in
theorem wl_RF_115 : Cond.methodLink "RiddleMillModel" 115 mRF_remove.1 ∈ gWS := gin 911 rfl rfl
set_option maxRecDepth 20000 in
theorem wi_RF_remove : Cond.instanceMethod mRF_remove.1 ∈ gWS := gin 913 rfl rfl
set_option maxRecDepth 20000 in
theorem wc_RF_remove : Cond.code mRF_remove.1 mRF_remove.2.1 mRF_remove.2.2.1 mRF_remove.2.2.2 ∈ gWS := gin 914 rfl rfl
set_option maxRecDepth 20000 in
theorem wl_LW_65 : Cond.methodLink "RiddleMillLaw" 65 mRF_clueAt.1 ∈ gWS := gin 915 rfl rfl
set_option maxRecDepth 20000 in
theorem wi_RF_clueAt : Cond.instanceMethod mRF_clueAt.1 ∈ gWS := gin 916 rfl rfl
set_option maxRecDepth 20000 in
theorem ws_RF_clueAt : Cond.selects mRF_clueAt.1.cls mRF_clueAt.1 mRF_clueAt.1 ∈ gWS := gin 917 rfl rfl
set_option maxRecDepth 20000 in
theorem wc_RF_clueAt : Cond.code mRF_clueAt.1 mRF_clueAt.2.1 mRF_clueAt.2.2.1 mRF_clueAt.2.2.2 ∈ gWS := gin 918 rfl rfl
set_option maxRecDepth 20000 in
theorem wl_LW_69 : Cond.methodLink "RiddleMillLaw" 69 mRF_count.1 ∈ gWS := gin 919 rfl rfl
set_option maxRecDepth 20000 in
theorem wi_RF_count : Cond.instanceMethod mRF_count.1 ∈ gWS := gin 920 rfl rfl
set_option maxRecDepth 20000 in
theorem ws_RF_count : Cond.selects mRF_count.1.cls mRF_count.1 mRF_count.1 ∈ gWS := gin 921 rfl rfl
set_option maxRecDepth 20000 in
theorem wc_RF_count : Cond.code mRF_count.1 mRF_count.2.1 mRF_count.2.2.1 mRF_count.2.2.2 ∈ gWS := gin 922 rfl rfl
set_option maxRecDepth 20000 in
theorem wl_RF_134 : Cond.methodLink "RiddleMillModel" 134 mRF_worlds.1 ∈ gWS := gin 923 rfl rfl
set_option maxRecDepth 20000 in
theorem wi_RF_worlds : Cond.instanceMethod mRF_worlds.1 ∈ gWS := gin 925 rfl rfl
set_option maxRecDepth 20000 in
theorem wc_RF_worlds : Cond.code mRF_worlds.1 mRF_worlds.2.1 mRF_worlds.2.2.1 mRF_worlds.2.2.2 ∈ gWS := gin 926 rfl rfl
set_option maxRecDepth 20000 in
theorem wl_RF_138 : Cond.methodLink "RiddleMillModel" 138 mRF_lay.1 ∈ gWS := gin 927 rfl rfl
set_option maxRecDepth 20000 in
theorem wi_RF_lay : Cond.instanceMethod mRF_lay.1 ∈ gWS := gin 929 rfl rfl
set_option maxRecDepth 20000 in
theorem wc_RF_lay : Cond.code mRF_lay.1 mRF_lay.2.1 mRF_lay.2.2.1 mRF_lay.2.2.2 ∈ gWS := gin 930 rfl rfl
set_option maxRecDepth 20000 in
theorem wl_RF_141 : Cond.methodLink "RiddleMillModel" 141 mRF_speakers.1 ∈ gWS := gin 931 rfl rfl
set_option maxRecDepth 20000 in
theorem wi_RF_speakers : Cond.instanceMethod mRF_speakers.1 ∈ gWS := gin 933 rfl rfl
set_option maxRecDepth 20000 in
theorem wc_RF_speakers : Cond.code mRF_speakers.1 mRF_speakers.2.1 mRF_speakers.2.2.1 mRF_speakers.2.2.2 ∈ gWS := gin 934 rfl rfl
set_option maxRecDepth 20000 in
theorem wl_RF_131 : Cond.methodLink "RiddleMillModel" 131 mRF_isSo.1 ∈ gWS := gin 935 rfl rfl
set_option maxRecDepth 20000 in
theorem wi_RF_isSo : Cond.instanceMethod mRF_isSo.1 ∈ gWS := gin 937 rfl rfl
set_option maxRecDepth 20000 in
theorem wc_RF_isSo : Cond.code mRF_isSo.1 mRF_isSo.2.1 mRF_isSo.2.2.1 mRF_isSo.2.2.2 ∈ gWS := gin 938 rfl rfl
set_option maxRecDepth 20000 in
theorem wl_RF_123 : Cond.methodLink "RiddleMillModel" 123 mRF_index.1 ∈ gWS := gin 939 rfl rfl
set_option maxRecDepth 20000 in
theorem wt_RF_index : Cond.static mRF_index.1 ∈ gWS := gin 940 rfl rfl
set_option maxRecDepth 20000 in
theorem wc_RF_index : Cond.code mRF_index.1 mRF_index.2.1 mRF_index.2.2.1 mRF_index.2.2.2 ∈ gWS := gin 941 rfl rfl
set_option maxRecDepth 20000 in
theorem wl_RF_127 : Cond.methodLink "RiddleMillModel" 127 mRF_says.1 ∈ gWS := gin 942 rfl rfl
set_option maxRecDepth 20000 in
theorem wi_RF_says : Cond.instanceMethod mRF_says.1 ∈ gWS := gin 944 rfl rfl
set_option maxRecDepth 20000 in
theorem wc_RF_says : Cond.code mRF_says.1 mRF_says.2.1 mRF_says.2.2.1 mRF_says.2.2.2 ∈ gWS := gin 945 rfl rfl
set_option maxRecDepth 20000 in
theorem wl_RF_119 : Cond.methodLink "RiddleMillModel" 119 mRF_standing.1 ∈ gWS := gin 946 rfl rfl
set_option maxRecDepth 20000 in
theorem wi_RF_standing : Cond.instanceMethod mRF_standing.1 ∈ gWS := gin 948 rfl rfl
set_option maxRecDepth 20000 in
theorem wc_RF_standing : Cond.code mRF_standing.1 mRF_standing.2.1 mRF_standing.2.2.1 mRF_standing.2.2.2 ∈ gWS := gin 949 rfl rfl
set_option maxRecDepth 20000 in
theorem wl_RF_144 : Cond.methodLink "RiddleMillModel" 144 mRF_many.1 ∈ gWS := gin 950 rfl rfl
set_option maxRecDepth 20000 in
theorem wt_RF_many : Cond.static mRF_many.1 ∈ gWS := gin 951 rfl rfl
set_option maxRecDepth 20000 in
theorem wc_RF_many : Cond.code mRF_many.1 mRF_many.2.1 mRF_many.2.2.1 mRF_many.2.2.2 ∈ gWS := gin 952 rfl rfl
set_option maxRecDepth 20000 in
theorem wl_LW_73 : Cond.methodLink "RiddleMillLaw" 73 mRF_answer.1 ∈ gWS := gin 953 rfl rfl
set_option maxRecDepth 20000 in
theorem wi_RF_answer : Cond.instanceMethod mRF_answer.1 ∈ gWS := gin 954 rfl rfl
set_option maxRecDepth 20000 in
theorem ws_RF_answer : Cond.selects mRF_answer.1.cls mRF_answer.1 mRF_answer.1 ∈ gWS := gin 955 rfl rfl
set_option maxRecDepth 20000 in
theorem wc_RF_answer : Cond.code mRF_answer.1 mRF_answer.2.1 mRF_answer.2.2.1 mRF_answer.2.2.2 ∈ gWS := gin 956 rfl rfl
set_option maxRecDepth 20000 in
theorem wl_LW_76 : Cond.methodLink "RiddleMillLaw" 76 mRF_needed.1 ∈ gWS := gin 957 rfl rfl
set_option maxRecDepth 20000 in
theorem wi_RF_needed : Cond.instanceMethod mRF_needed.1 ∈ gWS := gin 958 rfl rfl
set_option maxRecDepth 20000 in
theorem ws_RF_needed : Cond.selects mRF_needed.1.cls mRF_needed.1 mRF_needed.1 ∈ gWS := gin 959 rfl rfl
set_option maxRecDepth 20000 in
theorem wc_RF_needed : Cond.code mRF_needed.1 mRF_needed.2.1 mRF_needed.2.2.1 mRF_needed.2.2.2 ∈ gWS := gin 960 rfl rfl
set_option maxRecDepth 20000 in
theorem wl_RF_147 : Cond.methodLink "RiddleMillModel" 147 mRF_differ.1 ∈ gWS := gin 961 rfl rfl
set_option maxRecDepth 20000 in
theorem wi_RF_differ : Cond.instanceMethod mRF_differ.1 ∈ gWS := gin 963 rfl rfl
set_option maxRecDepth 20000 in
theorem wc_RF_differ : Cond.code mRF_differ.1 mRF_differ.2.1 mRF_differ.2.2.1 mRF_differ.2.2.2 ∈ gWS := gin 964 rfl rfl
set_option maxRecDepth 20000 in
theorem wl_LW_80 : Cond.methodLink "RiddleMillLaw" 80 mRF_prove.1 ∈ gWS := gin 965 rfl rfl
set_option maxRecDepth 20000 in
theorem wi_RF_prove : Cond.instanceMethod mRF_prove.1 ∈ gWS := gin 966 rfl rfl
set_option maxRecDepth 20000 in
theorem ws_RF_prove : Cond.selects mRF_prove.1.cls mRF_prove.1 mRF_prove.1 ∈ gWS := gin 967 rfl rfl
set_option maxRecDepth 20000 in
theorem wc_RF_prove : Cond.code mRF_prove.1 mRF_prove.2.1 mRF_prove.2.2.1 mRF_prove.2.2.2 ∈ gWS := gin 968 rfl rfl
set_option maxRecDepth 20000 in
theorem wl_RF_196 : Cond.methodLink "RiddleMillModel" 196 mRF_work.1 ∈ gWS := gin 969 rfl rfl
set_option maxRecDepth 20000 in
theorem wi_RF_work : Cond.instanceMethod mRF_work.1 ∈ gWS := gin 971 rfl rfl
set_option maxRecDepth 20000 in
theorem wc_RF_work : Cond.code mRF_work.1 mRF_work.2.1 mRF_work.2.2.1 mRF_work.2.2.2 ∈ gWS := gin 972 rfl rfl
set_option maxRecDepth 20000 in
theorem wl_RF_189 : Cond.methodLink "RiddleMillModel" 189 mRF_isStuck.1 ∈ gWS := gin 973 rfl rfl
set_option maxRecDepth 20000 in
theorem wi_RF_isStuck : Cond.instanceMethod mRF_isStuck.1 ∈ gWS := gin 975 rfl rfl
set_option maxRecDepth 20000 in
theorem wc_RF_isStuck : Cond.code mRF_isStuck.1 mRF_isStuck.2.1 mRF_isStuck.2.2.1 mRF_isStuck.2.2.2 ∈ gWS := gin 976 rfl rfl
set_option maxRecDepth 20000 in
theorem wl_RF_193 : Cond.methodLink "RiddleMillModel" 193 mRF_stepped.1 ∈ gWS := gin 977 rfl rfl
set_option maxRecDepth 20000 in
theorem wi_RF_stepped : Cond.instanceMethod mRF_stepped.1 ∈ gWS := gin 979 rfl rfl
set_option maxRecDepth 20000 in
theorem wc_RF_stepped : Cond.code mRF_stepped.1 mRF_stepped.2.1 mRF_stepped.2.2.1 mRF_stepped.2.2.2 ∈ gWS := gin 980 rfl rfl
set_option maxRecDepth 20000 in
theorem wl_RF_183 : Cond.methodLink "RiddleMillModel" 183 mRF_isOf.1 ∈ gWS := gin 981 rfl rfl
set_option maxRecDepth 20000 in
theorem wi_RF_isOf : Cond.instanceMethod mRF_isOf.1 ∈ gWS := gin 983 rfl rfl
set_option maxRecDepth 20000 in
theorem wc_RF_isOf : Cond.code mRF_isOf.1 mRF_isOf.2.1 mRF_isOf.2.2.1 mRF_isOf.2.2.2 ∈ gWS := gin 984 rfl rfl
set_option maxRecDepth 20000 in
theorem wl_RF_186 : Cond.methodLink "RiddleMillModel" 186 mRF_stepBy.1 ∈ gWS := gin 985 rfl rfl
set_option maxRecDepth 20000 in
theorem wi_RF_stepBy : Cond.instanceMethod mRF_stepBy.1 ∈ gWS := gin 987 rfl rfl
set_option maxRecDepth 20000 in
theorem wc_RF_stepBy : Cond.code mRF_stepBy.1 mRF_stepBy.2.1 mRF_stepBy.2.2.1 mRF_stepBy.2.2.2 ∈ gWS := gin 988 rfl rfl
set_option maxRecDepth 20000 in
theorem wl_RF_177 : Cond.methodLink "RiddleMillModel" 177 mRF_takes.1 ∈ gWS := gin 989 rfl rfl
set_option maxRecDepth 20000 in
theorem wi_RF_takes : Cond.instanceMethod mRF_takes.1 ∈ gWS := gin 991 rfl rfl
set_option maxRecDepth 20000 in
theorem wc_RF_takes : Cond.code mRF_takes.1 mRF_takes.2.1 mRF_takes.2.2.1 mRF_takes.2.2.2 ∈ gWS := gin 992 rfl rfl
set_option maxRecDepth 20000 in
theorem wl_RF_160 : Cond.methodLink "RiddleMillModel" 160 mRF_byOther.1 ∈ gWS := gin 993 rfl rfl
set_option maxRecDepth 20000 in
theorem wi_RF_byOther : Cond.instanceMethod mRF_byOther.1 ∈ gWS := gin 995 rfl rfl
set_option maxRecDepth 20000 in
theorem wc_RF_byOther : Cond.code mRF_byOther.1 mRF_byOther.2.1 mRF_byOther.2.2.1 mRF_byOther.2.2.2 ∈ gWS := gin 996 rfl rfl
set_option maxRecDepth 20000 in
theorem wl_RF_164 : Cond.methodLink "RiddleMillModel" 164 mRF_byOnly.1 ∈ gWS := gin 997 rfl rfl
set_option maxRecDepth 20000 in
theorem wi_RF_byOnly : Cond.instanceMethod mRF_byOnly.1 ∈ gWS := gin 999 rfl rfl
set_option maxRecDepth 20000 in
theorem wc_RF_byOnly : Cond.code mRF_byOnly.1 mRF_byOnly.2.1 mRF_byOnly.2.2.1 mRF_byOnly.2.2.2 ∈ gWS := gin 1000 rfl rfl
set_option maxRecDepth 20000 in
theorem wl_RF_167 : Cond.methodLink "RiddleMillModel" 167 mRF_byPair.1 ∈ gWS := gin 1001 rfl rfl
set_option maxRecDepth 20000 in
theorem wi_RF_byPair : Cond.instanceMethod mRF_byPair.1 ∈ gWS := gin 1003 rfl rfl
set_option maxRecDepth 20000 in
theorem wc_RF_byPair : Cond.code mRF_byPair.1 mRF_byPair.2.1 mRF_byPair.2.2.1 mRF_byPair.2.2.2 ∈ gWS := gin 1004 rfl rfl
set_option maxRecDepth 20000 in
theorem wl_RF_150 : Cond.methodLink "RiddleMillModel" 150 mRF_size.1 ∈ gWS := gin 1005 rfl rfl
set_option maxRecDepth 20000 in
theorem wt_RF_size : Cond.static mRF_size.1 ∈ gWS := gin 1006 rfl rfl
set_option maxRecDepth 20000 in
theorem wc_RF_size : Cond.code mRF_size.1 mRF_size.2.1 mRF_size.2.2.1 mRF_size.2.2.2 ∈ gWS := gin 1007 rfl rfl
set_option maxRecDepth 20000 in
theorem wl_RF_170 : Cond.methodLink "RiddleMillModel" 170 mRF_isIn.1 ∈ gWS := gin 1008 rfl rfl
set_option maxRecDepth 20000 in
theorem wi_RF_isIn : Cond.instanceMethod mRF_isIn.1 ∈ gWS := gin 1010 rfl rfl
set_option maxRecDepth 20000 in
theorem wc_RF_isIn : Cond.code mRF_isIn.1 mRF_isIn.2.1 mRF_isIn.2.2.1 mRF_isIn.2.2.2 ∈ gWS := gin 1011 rfl rfl
set_option maxRecDepth 20000 in
theorem wl_RF_173 : Cond.methodLink "RiddleMillModel" 173 mRF_canBe.1 ∈ gWS := gin 1012 rfl rfl
set_option maxRecDepth 20000 in
theorem wi_RF_canBe : Cond.instanceMethod mRF_canBe.1 ∈ gWS := gin 1014 rfl rfl
set_option maxRecDepth 20000 in
theorem wc_RF_canBe : Cond.code mRF_canBe.1 mRF_canBe.2.1 mRF_canBe.2.2.1 mRF_canBe.2.2.2 ∈ gWS := gin 1015 rfl rfl
set_option maxRecDepth 20000 in
theorem wl_RF_153 : Cond.methodLink "RiddleMillModel" 153 mRF_mayBe.1 ∈ gWS := gin 1016 rfl rfl
set_option maxRecDepth 20000 in
theorem wi_RF_mayBe : Cond.instanceMethod mRF_mayBe.1 ∈ gWS := gin 1018 rfl rfl
set_option maxRecDepth 20000 in
theorem wc_RF_mayBe : Cond.code mRF_mayBe.1 mRF_mayBe.2.1 mRF_mayBe.2.2.1 mRF_mayBe.2.2.2 ∈ gWS := gin 1019 rfl rfl
set_option maxRecDepth 20000 in
theorem wl_RF_157 : Cond.methodLink "RiddleMillModel" 157 mRF_clash.1 ∈ gWS := gin 1020 rfl rfl
set_option maxRecDepth 20000 in
theorem wt_RF_clash : Cond.static mRF_clash.1 ∈ gWS := gin 1021 rfl rfl
set_option maxRecDepth 20000 in
theorem wc_RF_clash : Cond.code mRF_clash.1 mRF_clash.2.1 mRF_clash.2.2.1 mRF_clash.2.2.2 ∈ gWS := gin 1022 rfl rfl
set_option maxRecDepth 20000 in
theorem wl_LW_84 : Cond.methodLink "RiddleMillLaw" 84 mRF_step.1 ∈ gWS := gin 1023 rfl rfl
set_option maxRecDepth 20000 in
theorem wi_RF_step : Cond.instanceMethod mRF_step.1 ∈ gWS := gin 1024 rfl rfl
set_option maxRecDepth 20000 in
theorem ws_RF_step : Cond.selects mRF_step.1.cls mRF_step.1 mRF_step.1 ∈ gWS := gin 1025 rfl rfl
set_option maxRecDepth 20000 in
theorem wc_RF_step : Cond.code mRF_step.1 mRF_step.2.1 mRF_step.2.2.1 mRF_step.2.2.2 ∈ gWS := gin 1026 rfl rfl
set_option maxRecDepth 20000 in
theorem wl_LW_88 : Cond.methodLink "RiddleMillLaw" 88 mRF_may.1 ∈ gWS := gin 1027 rfl rfl
set_option maxRecDepth 20000 in
theorem wi_RF_may : Cond.instanceMethod mRF_may.1 ∈ gWS := gin 1028 rfl rfl
set_option maxRecDepth 20000 in
theorem ws_RF_may : Cond.selects mRF_may.1.cls mRF_may.1 mRF_may.1 ∈ gWS := gin 1029 rfl rfl
set_option maxRecDepth 20000 in
theorem wc_RF_may : Cond.code mRF_may.1 mRF_may.2.1 mRF_may.2.2.1 mRF_may.2.2.2 ∈ gWS := gin 1030 rfl rfl
set_option maxRecDepth 20000 in
theorem wl_LW_92 : Cond.methodLink "RiddleMillLaw" 92 mRF_rating.1 ∈ gWS := gin 1031 rfl rfl
set_option maxRecDepth 20000 in
theorem wi_RF_rating : Cond.instanceMethod mRF_rating.1 ∈ gWS := gin 1032 rfl rfl
set_option maxRecDepth 20000 in
theorem ws_RF_rating : Cond.selects mRF_rating.1.cls mRF_rating.1 mRF_rating.1 ∈ gWS := gin 1033 rfl rfl
set_option maxRecDepth 20000 in
theorem wc_RF_rating : Cond.code mRF_rating.1 mRF_rating.2.1 mRF_rating.2.2.1 mRF_rating.2.2.2 ∈ gWS := gin 1034 rfl rfl
set_option maxRecDepth 20000 in
theorem wl_RF_202 : Cond.methodLink "RiddleMillModel" 202 mRF_rated.1 ∈ gWS := gin 1035 rfl rfl
set_option maxRecDepth 20000 in
theorem wi_RF_rated : Cond.instanceMethod mRF_rated.1 ∈ gWS := gin 1037 rfl rfl
set_option maxRecDepth 20000 in
theorem wc_RF_rated : Cond.code mRF_rated.1 mRF_rated.2.1 mRF_rated.2.2.1 mRF_rated.2.2.2 ∈ gWS := gin 1038 rfl rfl
set_option maxRecDepth 20000 in
theorem wl_LW_96 : Cond.methodLink "RiddleMillLaw" 96 mRF_make.1 ∈ gWS := gin 1039 rfl rfl
set_option maxRecDepth 20000 in
theorem wi_RF_make : Cond.instanceMethod mRF_make.1 ∈ gWS := gin 1040 rfl rfl
set_option maxRecDepth 20000 in
theorem ws_RF_make : Cond.selects mRF_make.1.cls mRF_make.1 mRF_make.1 ∈ gWS := gin 1041 rfl rfl
set_option maxRecDepth 20000 in
theorem wc_RF_make : Cond.code mRF_make.1 mRF_make.2.1 mRF_make.2.2.1 mRF_make.2.2.2 ∈ gWS := gin 1042 rfl rfl
set_option maxRecDepth 20000 in
theorem wl_RF_237 : Cond.methodLink "RiddleMillModel" 237 mRF_once.1 ∈ gWS := gin 1044 rfl rfl
set_option maxRecDepth 20000 in
theorem wi_RF_once : Cond.instanceMethod mRF_once.1 ∈ gWS := gin 1046 rfl rfl
set_option maxRecDepth 20000 in
theorem wc_RF_once : Cond.code mRF_once.1 mRF_once.2.1 mRF_once.2.2.1 mRF_once.2.2.2 ∈ gWS := gin 1047 rfl rfl
set_option maxRecDepth 20000 in
theorem wl_RF_224 : Cond.methodLink "RiddleMillModel" 224 mRF_draw.1 ∈ gWS := gin 1048 rfl rfl
set_option maxRecDepth 20000 in
theorem wi_RF_draw : Cond.instanceMethod mRF_draw.1 ∈ gWS := gin 1050 rfl rfl
set_option maxRecDepth 20000 in
theorem wc_RF_draw : Cond.code mRF_draw.1 mRF_draw.2.1 mRF_draw.2.2.1 mRF_draw.2.2.2 ∈ gWS := gin 1051 rfl rfl
set_option maxRecDepth 20000 in
theorem wl_RF_227 : Cond.methodLink "RiddleMillModel" 227 mRF_swapPlaces.1 ∈ gWS := gin 1054 rfl rfl
set_option maxRecDepth 20000 in
theorem wi_RF_swapPlaces : Cond.instanceMethod mRF_swapPlaces.1 ∈ gWS := gin 1056 rfl rfl
set_option maxRecDepth 20000 in
theorem wc_RF_swapPlaces : Cond.code mRF_swapPlaces.1 mRF_swapPlaces.2.1 mRF_swapPlaces.2.2.1 mRF_swapPlaces.2.2.2 ∈ gWS := gin 1057 rfl rfl
set_option maxRecDepth 20000 in
theorem wl_RF_230 : Cond.methodLink "RiddleMillModel" 230 mRF_gather.1 ∈ gWS := gin 1058 rfl rfl
set_option maxRecDepth 20000 in
theorem wi_RF_gather : Cond.instanceMethod mRF_gather.1 ∈ gWS := gin 1060 rfl rfl
set_option maxRecDepth 20000 in
theorem wc_RF_gather : Cond.code mRF_gather.1 mRF_gather.2.1 mRF_gather.2.2.1 mRF_gather.2.2.2 ∈ gWS := gin 1061 rfl rfl
set_option maxRecDepth 20000 in
theorem wl_RF_220 : Cond.methodLink "RiddleMillModel" 220 mRF_gatherTwo.1 ∈ gWS := gin 1062 rfl rfl
set_option maxRecDepth 20000 in
theorem wi_RF_gatherTwo : Cond.instanceMethod mRF_gatherTwo.1 ∈ gWS := gin 1064 rfl rfl
set_option maxRecDepth 20000 in
theorem wc_RF_gatherTwo : Cond.code mRF_gatherTwo.1 mRF_gatherTwo.2.1 mRF_gatherTwo.2.2.1 mRF_gatherTwo.2.2.2 ∈ gWS := gin 1065 rfl rfl
set_option maxRecDepth 20000 in
theorem wl_RF_216 : Cond.methodLink "RiddleMillModel" 216 mRF_possibly.1 ∈ gWS := gin 1066 rfl rfl
set_option maxRecDepth 20000 in
theorem wi_RF_possibly : Cond.instanceMethod mRF_possibly.1 ∈ gWS := gin 1068 rfl rfl
set_option maxRecDepth 20000 in
theorem wc_RF_possibly : Cond.code mRF_possibly.1 mRF_possibly.2.1 mRF_possibly.2.2.1 mRF_possibly.2.2.2 ∈ gWS := gin 1069 rfl rfl
set_option maxRecDepth 20000 in
theorem wl_LW_103 : Cond.methodLink "RiddleMillLaw" 103 mRF_name.1 ∈ gWS := gin 1070 rfl rfl
set_option maxRecDepth 20000 in
theorem wi_RF_name : Cond.instanceMethod mRF_name.1 ∈ gWS := gin 1071 rfl rfl
set_option maxRecDepth 20000 in
theorem ws_RF_name : Cond.selects mRF_name.1.cls mRF_name.1 mRF_name.1 ∈ gWS := gin 1072 rfl rfl
set_option maxRecDepth 20000 in
theorem wc_RF_name : Cond.code mRF_name.1 mRF_name.2.1 mRF_name.2.2.1 mRF_name.2.2.2 ∈ gWS := gin 1073 rfl rfl
set_option maxRecDepth 20000 in
theorem wl_RF_242 : Cond.methodLink "RiddleMillModel" 242 mRF_letters.1 ∈ gWS := gin 1074 rfl rfl
set_option maxRecDepth 20000 in
theorem wt_RF_letters : Cond.static mRF_letters.1 ∈ gWS := gin 1075 rfl rfl
set_option maxRecDepth 20000 in
theorem wc_RF_letters : Cond.code mRF_letters.1 mRF_letters.2.1 mRF_letters.2.2.1 mRF_letters.2.2.2 ∈ gWS := gin 1076 rfl rfl
set_option maxRecDepth 20000 in
theorem wl_LW_107 : Cond.methodLink "RiddleMillLaw" 107 mRF_print.1 ∈ gWS := gin 1080 rfl rfl
set_option maxRecDepth 20000 in
theorem wi_RF_print : Cond.instanceMethod mRF_print.1 ∈ gWS := gin 1081 rfl rfl
set_option maxRecDepth 20000 in
theorem ws_RF_print : Cond.selects mRF_print.1.cls mRF_print.1 mRF_print.1 ∈ gWS := gin 1082 rfl rfl
set_option maxRecDepth 20000 in
theorem wc_RF_print : Cond.code mRF_print.1 mRF_print.2.1 mRF_print.2.2.1 mRF_print.2.2.2 ∈ gWS := gin 1083 rfl rfl
set_option maxRecDepth 20000 in
theorem wl_RF_257 : Cond.methodLink "RiddleMillModel" 257 mRF_isNamed.1 ∈ gWS := gin 1084 rfl rfl
set_option maxRecDepth 20000 in
theorem wi_RF_isNamed : Cond.instanceMethod mRF_isNamed.1 ∈ gWS := gin 1086 rfl rfl
set_option maxRecDepth 20000 in
theorem wc_RF_isNamed : Cond.code mRF_isNamed.1 mRF_isNamed.2.1 mRF_isNamed.2.2.1 mRF_isNamed.2.2.2 ∈ gWS := gin 1087 rfl rfl
set_option maxRecDepth 20000 in
theorem wl_RF_253 : Cond.methodLink "RiddleMillModel" 253 mRF_show.1 ∈ gWS := gin 1088 rfl rfl
set_option maxRecDepth 20000 in
theorem wi_RF_show : Cond.instanceMethod mRF_show.1 ∈ gWS := gin 1090 rfl rfl
set_option maxRecDepth 20000 in
theorem wc_RF_show : Cond.code mRF_show.1 mRF_show.2.1 mRF_show.2.2.1 mRF_show.2.2.2 ∈ gWS := gin 1091 rfl rfl
set_option maxRecDepth 20000 in
theorem wl_RF_260 : Cond.methodLink "RiddleMillModel" 260 mRF_showThing.1 ∈ gWS := gin 1092 rfl rfl
set_option maxRecDepth 20000 in
theorem wi_RF_showThing : Cond.instanceMethod mRF_showThing.1 ∈ gWS := gin 1094 rfl rfl
set_option maxRecDepth 20000 in
theorem wc_RF_showThing : Cond.code mRF_showThing.1 mRF_showThing.2.1 mRF_showThing.2.2.1 mRF_showThing.2.2.2 ∈ gWS := gin 1095 rfl rfl
set_option maxRecDepth 20000 in
theorem wl_LW_111 : Cond.methodLink "RiddleMillLaw" 111 mRF_shown.1 ∈ gWS := gin 1096 rfl rfl
set_option maxRecDepth 20000 in
theorem wi_RF_shown : Cond.instanceMethod mRF_shown.1 ∈ gWS := gin 1097 rfl rfl
set_option maxRecDepth 20000 in
theorem ws_RF_shown : Cond.selects mRF_shown.1.cls mRF_shown.1 mRF_shown.1 ∈ gWS := gin 1098 rfl rfl
set_option maxRecDepth 20000 in
theorem wc_RF_shown : Cond.code mRF_shown.1 mRF_shown.2.1 mRF_shown.2.2.1 mRF_shown.2.2.2 ∈ gWS := gin 1099 rfl rfl
set_option maxRecDepth 20000 in
theorem wl_LW_116 : Cond.methodLink "RiddleMillLaw" 116 mRF_type.1 ∈ gWS := gin 1100 rfl rfl
set_option maxRecDepth 20000 in
theorem wi_RF_type : Cond.instanceMethod mRF_type.1 ∈ gWS := gin 1101 rfl rfl
set_option maxRecDepth 20000 in
theorem ws_RF_type : Cond.selects mRF_type.1.cls mRF_type.1 mRF_type.1 ∈ gWS := gin 1102 rfl rfl
set_option maxRecDepth 20000 in
theorem wc_RF_type : Cond.code mRF_type.1 mRF_type.2.1 mRF_type.2.2.1 mRF_type.2.2.2 ∈ gWS := gin 1103 rfl rfl
set_option maxRecDepth 20000 in
theorem wl_LW_120 : Cond.methodLink "RiddleMillLaw" 120 mRF_read.1 ∈ gWS := gin 1106 rfl rfl
set_option maxRecDepth 20000 in
theorem wi_RF_read : Cond.instanceMethod mRF_read.1 ∈ gWS := gin 1107 rfl rfl
set_option maxRecDepth 20000 in
theorem ws_RF_read : Cond.selects mRF_read.1.cls mRF_read.1 mRF_read.1 ∈ gWS := gin 1108 rfl rfl
set_option maxRecDepth 20000 in
theorem wc_RF_read : Cond.code mRF_read.1 mRF_read.2.1 mRF_read.2.2.1 mRF_read.2.2.2 ∈ gWS := gin 1109 rfl rfl
set_option maxRecDepth 20000 in
theorem wl_RF_295 : Cond.methodLink "RiddleMillModel" 295 mRF_is.1 ∈ gWS := gin 1111 rfl rfl
set_option maxRecDepth 20000 in
theorem wi_RF_is : Cond.instanceMethod mRF_is.1 ∈ gWS := gin 1113 rfl rfl
set_option maxRecDepth 20000 in
theorem wc_RF_is : Cond.code mRF_is.1 mRF_is.2.1 mRF_is.2.2.1 mRF_is.2.2.2 ∈ gWS := gin 1114 rfl rfl
set_option maxRecDepth 20000 in
theorem wl_RF_275 : Cond.methodLink "RiddleMillModel" 275 mRF_isAtEnd.1 ∈ gWS := gin 1115 rfl rfl
set_option maxRecDepth 20000 in
theorem wi_RF_isAtEnd : Cond.instanceMethod mRF_isAtEnd.1 ∈ gWS := gin 1117 rfl rfl
set_option maxRecDepth 20000 in
theorem wc_RF_isAtEnd : Cond.code mRF_isAtEnd.1 mRF_isAtEnd.2.1 mRF_isAtEnd.2.2.1 mRF_isAtEnd.2.2.2 ∈ gWS := gin 1118 rfl rfl
set_option maxRecDepth 20000 in
theorem wl_RF_278 : Cond.methodLink "RiddleMillModel" 278 mRF_word.1 ∈ gWS := gin 1119 rfl rfl
set_option maxRecDepth 20000 in
theorem wi_RF_word : Cond.instanceMethod mRF_word.1 ∈ gWS := gin 1121 rfl rfl
set_option maxRecDepth 20000 in
theorem wc_RF_word : Cond.code mRF_word.1 mRF_word.2.1 mRF_word.2.2.1 mRF_word.2.2.2 ∈ gWS := gin 1122 rfl rfl
set_option maxRecDepth 20000 in
theorem wl_RF_305 : Cond.methodLink "RiddleMillModel" 305 mRF_digit.1 ∈ gWS := gin 1125 rfl rfl
set_option maxRecDepth 20000 in
theorem wi_RF_digit : Cond.instanceMethod mRF_digit.1 ∈ gWS := gin 1127 rfl rfl
set_option maxRecDepth 20000 in
theorem wc_RF_digit : Cond.code mRF_digit.1 mRF_digit.2.1 mRF_digit.2.2.1 mRF_digit.2.2.2 ∈ gWS := gin 1128 rfl rfl
set_option maxRecDepth 20000 in
theorem wl_RF_292 : Cond.methodLink "RiddleMillModel" 292 mRF_isDigit.1 ∈ gWS := gin 1129 rfl rfl
set_option maxRecDepth 20000 in
theorem wi_RF_isDigit : Cond.instanceMethod mRF_isDigit.1 ∈ gWS := gin 1131 rfl rfl
set_option maxRecDepth 20000 in
theorem wc_RF_isDigit : Cond.code mRF_isDigit.1 mRF_isDigit.2.1 mRF_isDigit.2.2.1 mRF_isDigit.2.2.2 ∈ gWS := gin 1132 rfl rfl
set_option maxRecDepth 20000 in
theorem wl_RF_282 : Cond.methodLink "RiddleMillModel" 282 mRF_bad.1 ∈ gWS := gin 1134 rfl rfl
set_option maxRecDepth 20000 in
theorem wi_RF_bad : Cond.instanceMethod mRF_bad.1 ∈ gWS := gin 1136 rfl rfl
set_option maxRecDepth 20000 in
theorem wc_RF_bad : Cond.code mRF_bad.1 mRF_bad.2.1 mRF_bad.2.2.1 mRF_bad.2.2.2 ∈ gWS := gin 1137 rfl rfl
set_option maxRecDepth 20000 in
theorem wl_RF_285 : Cond.methodLink "RiddleMillModel" 285 mRF_next.1 ∈ gWS := gin 1138 rfl rfl
set_option maxRecDepth 20000 in
theorem wi_RF_next : Cond.instanceMethod mRF_next.1 ∈ gWS := gin 1140 rfl rfl
set_option maxRecDepth 20000 in
theorem wc_RF_next : Cond.code mRF_next.1 mRF_next.2.1 mRF_next.2.2.1 mRF_next.2.2.2 ∈ gWS := gin 1141 rfl rfl
set_option maxRecDepth 20000 in
theorem wl_RF_302 : Cond.methodLink "RiddleMillModel" 302 mRF_must.1 ∈ gWS := gin 1142 rfl rfl
set_option maxRecDepth 20000 in
theorem wi_RF_must : Cond.instanceMethod mRF_must.1 ∈ gWS := gin 1144 rfl rfl
set_option maxRecDepth 20000 in
theorem wc_RF_must : Cond.code mRF_must.1 mRF_must.2.1 mRF_must.2.2.1 mRF_must.2.2.2 ∈ gWS := gin 1145 rfl rfl
set_option maxRecDepth 20000 in
theorem wl_RF_311 : Cond.methodLink "RiddleMillModel" 311 mRF_thing.1 ∈ gWS := gin 1146 rfl rfl
set_option maxRecDepth 20000 in
theorem wi_RF_thing : Cond.instanceMethod mRF_thing.1 ∈ gWS := gin 1148 rfl rfl
set_option maxRecDepth 20000 in
theorem wc_RF_thing : Cond.code mRF_thing.1 mRF_thing.2.1 mRF_thing.2.2.1 mRF_thing.2.2.2 ∈ gWS := gin 1149 rfl rfl
set_option maxRecDepth 20000 in
theorem wl_RF_328 : Cond.methodLink "RiddleMillModel" 328 mRF_rest.1 ∈ gWS := gin 1150 rfl rfl
set_option maxRecDepth 20000 in
theorem wi_RF_rest : Cond.instanceMethod mRF_rest.1 ∈ gWS := gin 1152 rfl rfl
set_option maxRecDepth 20000 in
theorem wc_RF_rest : Cond.code mRF_rest.1 mRF_rest.2.1 mRF_rest.2.2.1 mRF_rest.2.2.2 ∈ gWS := gin 1153 rfl rfl
set_option maxRecDepth 20000 in
theorem wl_RF_331 : Cond.methodLink "RiddleMillModel" 331 mRF_clue.1 ∈ gWS := gin 1154 rfl rfl
set_option maxRecDepth 20000 in
theorem wl_LW_124 : Cond.methodLink "RiddleMillLaw" 124 mRF_fault.1 ∈ gWS := gin 1155 rfl rfl
set_option maxRecDepth 20000 in
theorem wi_RF_fault : Cond.instanceMethod mRF_fault.1 ∈ gWS := gin 1156 rfl rfl
set_option maxRecDepth 20000 in
theorem ws_RF_fault : Cond.selects mRF_fault.1.cls mRF_fault.1 mRF_fault.1 ∈ gWS := gin 1157 rfl rfl
set_option maxRecDepth 20000 in
theorem wc_RF_fault : Cond.code mRF_fault.1 mRF_fault.2.1 mRF_fault.2.2.1 mRF_fault.2.2.2 ∈ gWS := gin 1158 rfl rfl
set_option maxRecDepth 20000 in
theorem wl_LW_128 : Cond.methodLink "RiddleMillLaw" 128 mRF_about.1 ∈ gWS := gin 1159 rfl rfl
set_option maxRecDepth 20000 in
theorem wi_RF_about : Cond.instanceMethod mRF_about.1 ∈ gWS := gin 1160 rfl rfl
set_option maxRecDepth 20000 in
theorem ws_RF_about : Cond.selects mRF_about.1.cls mRF_about.1 mRF_about.1 ∈ gWS := gin 1161 rfl rfl
set_option maxRecDepth 20000 in
theorem wc_RF_about : Cond.code mRF_about.1 mRF_about.2.1 mRF_about.2.2.1 mRF_about.2.2.2 ∈ gWS := gin 1162 rfl rfl
set_option maxRecDepth 20000 in
theorem ws_RM_isThing : Cond.selects mRM_isThing.1.cls mRM_isThing.1 mRM_isThing.1 ∈ gWS := gis (List.mem_of_getElem? (i := 0) rfl) rfl
set_option maxRecDepth 20000 in
theorem ws_WO_prepare : Cond.selects mWO_prepare.1.cls mWO_prepare.1 mWO_prepare.1 ∈ gWS := gis (List.mem_of_getElem? (i := 1) rfl) rfl
set_option maxRecDepth 20000 in
theorem ws_WO_dueAt : Cond.selects mWO_dueAt.1.cls mWO_dueAt.1 mWO_dueAt.1 ∈ gWS := gis (List.mem_of_getElem? (i := 2) rfl) rfl
set_option maxRecDepth 20000 in
theorem ws_WO_placeFrom : Cond.selects mWO_placeFrom.1.cls mWO_placeFrom.1 mWO_placeFrom.1 ∈ gWS := gis (List.mem_of_getElem? (i := 3) rfl) rfl
set_option maxRecDepth 20000 in
theorem ws_WO_take : Cond.selects mWO_take.1.cls mWO_take.1 mWO_take.1 ∈ gWS := gis (List.mem_of_getElem? (i := 4) rfl) rfl
set_option maxRecDepth 20000 in
theorem ws_WO_heard : Cond.selects mWO_heard.1.cls mWO_heard.1 mWO_heard.1 ∈ gWS := gis (List.mem_of_getElem? (i := 5) rfl) rfl
set_option maxRecDepth 20000 in
theorem ws_PR_bySort : Cond.selects mPR_bySort.1.cls mPR_bySort.1 mPR_bySort.1 ∈ gWS := gis (List.mem_of_getElem? (i := 6) rfl) rfl
set_option maxRecDepth 20000 in
theorem ws_PR_barred : Cond.selects mPR_barred.1.cls mPR_barred.1 mPR_barred.1 ∈ gWS := gis (List.mem_of_getElem? (i := 7) rfl) rfl
set_option maxRecDepth 20000 in
theorem ws_PR_barredByLone : Cond.selects mPR_barredByLone.1.cls mPR_barredByLone.1 mPR_barredByLone.1 ∈ gWS := gis (List.mem_of_getElem? (i := 8) rfl) rfl
set_option maxRecDepth 20000 in
theorem ws_PR_barredByOwn : Cond.selects mPR_barredByOwn.1.cls mPR_barredByOwn.1 mPR_barredByOwn.1 ∈ gWS := gis (List.mem_of_getElem? (i := 9) rfl) rfl
set_option maxRecDepth 20000 in
theorem ws_PR_barredByPairs : Cond.selects mPR_barredByPairs.1.cls mPR_barredByPairs.1 mPR_barredByPairs.1 ∈ gWS := gis (List.mem_of_getElem? (i := 10) rfl) rfl
set_option maxRecDepth 20000 in
theorem ws_PR_take : Cond.selects mPR_take.1.cls mPR_take.1 mPR_take.1 ∈ gWS := gis (List.mem_of_getElem? (i := 11) rfl) rfl
set_option maxRecDepth 20000 in
theorem ws_PR_byClues : Cond.selects mPR_byClues.1.cls mPR_byClues.1 mPR_byClues.1 ∈ gWS := gis (List.mem_of_getElem? (i := 12) rfl) rfl
set_option maxRecDepth 20000 in
theorem ws_PR_byClue : Cond.selects mPR_byClue.1.cls mPR_byClue.1 mPR_byClue.1 ∈ gWS := gis (List.mem_of_getElem? (i := 13) rfl) rfl
set_option maxRecDepth 20000 in
theorem ws_PR_canBeSo : Cond.selects mPR_canBeSo.1.cls mPR_canBeSo.1 mPR_canBeSo.1 ∈ gWS := gis (List.mem_of_getElem? (i := 14) rfl) rfl
set_option maxRecDepth 20000 in
theorem ws_PR_bitsFor : Cond.selects mPR_bitsFor.1.cls mPR_bitsFor.1 mPR_bitsFor.1 ∈ gWS := gis (List.mem_of_getElem? (i := 15) rfl) rfl
set_option maxRecDepth 20000 in
theorem ws_PR_isSolved : Cond.selects mPR_isSolved.1.cls mPR_isSolved.1 mPR_isSolved.1 ∈ gWS := gis (List.mem_of_getElem? (i := 16) rfl) rfl
set_option maxRecDepth 20000 in
theorem ws_SP_thingNamed : Cond.selects mSP_thingNamed.1.cls mSP_thingNamed.1 mSP_thingNamed.1 ∈ gWS := gis (List.mem_of_getElem? (i := 17) rfl) rfl
set_option maxRecDepth 20000 in
theorem ws_SP_lacksName : Cond.selects mSP_lacksName.1.cls mSP_lacksName.1 mSP_lacksName.1 ∈ gWS := gis (List.mem_of_getElem? (i := 18) rfl) rfl
set_option maxRecDepth 20000 in
theorem ws_SP_put : Cond.selects mSP_put.1.cls mSP_put.1 mSP_put.1 ∈ gWS := gis (List.mem_of_getElem? (i := 19) rfl) rfl
set_option maxRecDepth 20000 in
theorem ws_SP_putWord : Cond.selects mSP_putWord.1.cls mSP_putWord.1 mSP_putWord.1 ∈ gWS := gis (List.mem_of_getElem? (i := 20) rfl) rfl
set_option maxRecDepth 20000 in
theorem ws_RM_isAsTold : Cond.selects mRM_isAsTold.1.cls mRM_isAsTold.1 mRM_isAsTold.1 ∈ gWS := gis (List.mem_of_getElem? (i := 21) rfl) rfl
set_option maxRecDepth 20000 in
theorem ws_RM_added : Cond.selects mRM_added.1.cls mRM_added.1 mRM_added.1 ∈ gWS := gis (List.mem_of_getElem? (i := 23) rfl) rfl
set_option maxRecDepth 20000 in
theorem ws_MA_drawWorld : Cond.selects mMA_drawWorld.1.cls mMA_drawWorld.1 mMA_drawWorld.1 ∈ gWS := gis (List.mem_of_getElem? (i := 24) rfl) rfl
set_option maxRecDepth 20000 in
theorem ws_MA_draw : Cond.selects mMA_draw.1.cls mMA_draw.1 mMA_draw.1 ∈ gWS := gis (List.mem_of_getElem? (i := 25) rfl) rfl
set_option maxRecDepth 20000 in
theorem ws_MA_gather : Cond.selects mMA_gather.1.cls mMA_gather.1 mMA_gather.1 ∈ gWS := gis (List.mem_of_getElem? (i := 26) rfl) rfl
set_option maxRecDepth 20000 in
theorem ws_MA_gatherFor : Cond.selects mMA_gatherFor.1.cls mMA_gatherFor.1 mMA_gatherFor.1 ∈ gWS := gis (List.mem_of_getElem? (i := 27) rfl) rfl
set_option maxRecDepth 20000 in
theorem ws_MA_consider : Cond.selects mMA_consider.1.cls mMA_consider.1 mMA_consider.1 ∈ gWS := gis (List.mem_of_getElem? (i := 28) rfl) rfl
set_option maxRecDepth 20000 in
theorem ws_MA_mix : Cond.selects mMA_mix.1.cls mMA_mix.1 mMA_mix.1 ∈ gWS := gis (List.mem_of_getElem? (i := 29) rfl) rfl
set_option maxRecDepth 20000 in
theorem ws_MA_thinOut : Cond.selects mMA_thinOut.1.cls mMA_thinOut.1 mMA_thinOut.1 ∈ gWS := gis (List.mem_of_getElem? (i := 30) rfl) rfl
set_option maxRecDepth 20000 in
theorem ws_SP_readSpeaker : Cond.selects mSP_readSpeaker.1.cls mSP_readSpeaker.1 mSP_readSpeaker.1 ∈ gWS := gis (List.mem_of_getElem? (i := 31) rfl) rfl
set_option maxRecDepth 20000 in
theorem ws_SP_readWord : Cond.selects mSP_readWord.1.cls mSP_readWord.1 mSP_readWord.1 ∈ gWS := gis (List.mem_of_getElem? (i := 32) rfl) rfl
set_option maxRecDepth 20000 in
theorem ws_SP_isEnded : Cond.selects mSP_isEnded.1.cls mSP_isEnded.1 mSP_isEnded.1 ∈ gWS := gis (List.mem_of_getElem? (i := 33) rfl) rfl
set_option maxRecDepth 20000 in
theorem ws_SP_goingOn : Cond.selects mSP_goingOn.1.cls mSP_goingOn.1 mSP_goingOn.1 ∈ gWS := gis (List.mem_of_getElem? (i := 34) rfl) rfl
set_option maxRecDepth 20000 in
theorem ws_SP_meaning : Cond.selects mSP_meaning.1.cls mSP_meaning.1 mSP_meaning.1 ∈ gWS := gis (List.mem_of_getElem? (i := 35) rfl) rfl
set_option maxRecDepth 20000 in
theorem ws_RF_isClue : Cond.selects mRF_isClue.1.cls mRF_isClue.1 mRF_isClue.1 ∈ gWS := gis (List.mem_of_getElem? (i := 36) rfl) rfl
set_option maxRecDepth 20000 in
theorem ws_RF_isThing : Cond.selects mRF_isThing.1.cls mRF_isThing.1 mRF_isThing.1 ∈ gWS := gis (List.mem_of_getElem? (i := 37) rfl) rfl
set_option maxRecDepth 20000 in
theorem ws_RF_isThere : Cond.selects mRF_isThere.1.cls mRF_isThere.1 mRF_isThere.1 ∈ gWS := gis (List.mem_of_getElem? (i := 38) rfl) rfl
set_option maxRecDepth 20000 in
theorem ws_RF_put : Cond.selects mRF_put.1.cls mRF_put.1 mRF_put.1 ∈ gWS := gis (List.mem_of_getElem? (i := 39) rfl) rfl
set_option maxRecDepth 20000 in
theorem ws_RF_remove : Cond.selects mRF_remove.1.cls mRF_remove.1 mRF_remove.1 ∈ gWS := gis (List.mem_of_getElem? (i := 40) rfl) rfl
set_option maxRecDepth 20000 in
theorem ws_RF_worlds : Cond.selects mRF_worlds.1.cls mRF_worlds.1 mRF_worlds.1 ∈ gWS := gis (List.mem_of_getElem? (i := 41) rfl) rfl
set_option maxRecDepth 20000 in
theorem ws_RF_lay : Cond.selects mRF_lay.1.cls mRF_lay.1 mRF_lay.1 ∈ gWS := gis (List.mem_of_getElem? (i := 42) rfl) rfl
set_option maxRecDepth 20000 in
theorem ws_RF_speakers : Cond.selects mRF_speakers.1.cls mRF_speakers.1 mRF_speakers.1 ∈ gWS := gis (List.mem_of_getElem? (i := 43) rfl) rfl
set_option maxRecDepth 20000 in
theorem ws_RF_isSo : Cond.selects mRF_isSo.1.cls mRF_isSo.1 mRF_isSo.1 ∈ gWS := gis (List.mem_of_getElem? (i := 44) rfl) rfl
set_option maxRecDepth 20000 in
theorem ws_RF_says : Cond.selects mRF_says.1.cls mRF_says.1 mRF_says.1 ∈ gWS := gis (List.mem_of_getElem? (i := 45) rfl) rfl
set_option maxRecDepth 20000 in
theorem ws_RF_standing : Cond.selects mRF_standing.1.cls mRF_standing.1 mRF_standing.1 ∈ gWS := gis (List.mem_of_getElem? (i := 46) rfl) rfl
set_option maxRecDepth 20000 in
theorem ws_RF_differ : Cond.selects mRF_differ.1.cls mRF_differ.1 mRF_differ.1 ∈ gWS := gis (List.mem_of_getElem? (i := 47) rfl) rfl
set_option maxRecDepth 20000 in
theorem ws_RF_work : Cond.selects mRF_work.1.cls mRF_work.1 mRF_work.1 ∈ gWS := gis (List.mem_of_getElem? (i := 48) rfl) rfl
set_option maxRecDepth 20000 in
theorem ws_RF_isStuck : Cond.selects mRF_isStuck.1.cls mRF_isStuck.1 mRF_isStuck.1 ∈ gWS := gis (List.mem_of_getElem? (i := 49) rfl) rfl
set_option maxRecDepth 20000 in
theorem ws_RF_stepped : Cond.selects mRF_stepped.1.cls mRF_stepped.1 mRF_stepped.1 ∈ gWS := gis (List.mem_of_getElem? (i := 50) rfl) rfl
set_option maxRecDepth 20000 in
theorem ws_RF_isOf : Cond.selects mRF_isOf.1.cls mRF_isOf.1 mRF_isOf.1 ∈ gWS := gis (List.mem_of_getElem? (i := 51) rfl) rfl
set_option maxRecDepth 20000 in
theorem ws_RF_stepBy : Cond.selects mRF_stepBy.1.cls mRF_stepBy.1 mRF_stepBy.1 ∈ gWS := gis (List.mem_of_getElem? (i := 52) rfl) rfl
set_option maxRecDepth 20000 in
theorem ws_RF_takes : Cond.selects mRF_takes.1.cls mRF_takes.1 mRF_takes.1 ∈ gWS := gis (List.mem_of_getElem? (i := 53) rfl) rfl
set_option maxRecDepth 20000 in
theorem ws_RF_byOther : Cond.selects mRF_byOther.1.cls mRF_byOther.1 mRF_byOther.1 ∈ gWS := gis (List.mem_of_getElem? (i := 54) rfl) rfl
set_option maxRecDepth 20000 in
theorem ws_RF_byOnly : Cond.selects mRF_byOnly.1.cls mRF_byOnly.1 mRF_byOnly.1 ∈ gWS := gis (List.mem_of_getElem? (i := 55) rfl) rfl
set_option maxRecDepth 20000 in
theorem ws_RF_byPair : Cond.selects mRF_byPair.1.cls mRF_byPair.1 mRF_byPair.1 ∈ gWS := gis (List.mem_of_getElem? (i := 56) rfl) rfl
set_option maxRecDepth 20000 in
theorem ws_RF_isIn : Cond.selects mRF_isIn.1.cls mRF_isIn.1 mRF_isIn.1 ∈ gWS := gis (List.mem_of_getElem? (i := 57) rfl) rfl
set_option maxRecDepth 20000 in
theorem ws_RF_canBe : Cond.selects mRF_canBe.1.cls mRF_canBe.1 mRF_canBe.1 ∈ gWS := gis (List.mem_of_getElem? (i := 58) rfl) rfl
set_option maxRecDepth 20000 in
theorem ws_RF_mayBe : Cond.selects mRF_mayBe.1.cls mRF_mayBe.1 mRF_mayBe.1 ∈ gWS := gis (List.mem_of_getElem? (i := 59) rfl) rfl
set_option maxRecDepth 20000 in
theorem ws_RF_rated : Cond.selects mRF_rated.1.cls mRF_rated.1 mRF_rated.1 ∈ gWS := gis (List.mem_of_getElem? (i := 60) rfl) rfl
set_option maxRecDepth 20000 in
theorem ws_RF_once : Cond.selects mRF_once.1.cls mRF_once.1 mRF_once.1 ∈ gWS := gis (List.mem_of_getElem? (i := 61) rfl) rfl
set_option maxRecDepth 20000 in
theorem ws_RF_draw : Cond.selects mRF_draw.1.cls mRF_draw.1 mRF_draw.1 ∈ gWS := gis (List.mem_of_getElem? (i := 62) rfl) rfl
set_option maxRecDepth 20000 in
theorem ws_RF_swapPlaces : Cond.selects mRF_swapPlaces.1.cls mRF_swapPlaces.1 mRF_swapPlaces.1 ∈ gWS := gis (List.mem_of_getElem? (i := 63) rfl) rfl
set_option maxRecDepth 20000 in
theorem ws_RF_gather : Cond.selects mRF_gather.1.cls mRF_gather.1 mRF_gather.1 ∈ gWS := gis (List.mem_of_getElem? (i := 64) rfl) rfl
set_option maxRecDepth 20000 in
theorem ws_RF_gatherTwo : Cond.selects mRF_gatherTwo.1.cls mRF_gatherTwo.1 mRF_gatherTwo.1 ∈ gWS := gis (List.mem_of_getElem? (i := 65) rfl) rfl
set_option maxRecDepth 20000 in
theorem ws_RF_possibly : Cond.selects mRF_possibly.1.cls mRF_possibly.1 mRF_possibly.1 ∈ gWS := gis (List.mem_of_getElem? (i := 66) rfl) rfl
set_option maxRecDepth 20000 in
theorem ws_RF_isNamed : Cond.selects mRF_isNamed.1.cls mRF_isNamed.1 mRF_isNamed.1 ∈ gWS := gis (List.mem_of_getElem? (i := 67) rfl) rfl
set_option maxRecDepth 20000 in
theorem ws_RF_show : Cond.selects mRF_show.1.cls mRF_show.1 mRF_show.1 ∈ gWS := gis (List.mem_of_getElem? (i := 68) rfl) rfl
set_option maxRecDepth 20000 in
theorem ws_RF_showThing : Cond.selects mRF_showThing.1.cls mRF_showThing.1 mRF_showThing.1 ∈ gWS := gis (List.mem_of_getElem? (i := 69) rfl) rfl
set_option maxRecDepth 20000 in
theorem ws_RF_is : Cond.selects mRF_is.1.cls mRF_is.1 mRF_is.1 ∈ gWS := gis (List.mem_of_getElem? (i := 70) rfl) rfl
set_option maxRecDepth 20000 in
theorem ws_RF_isAtEnd : Cond.selects mRF_isAtEnd.1.cls mRF_isAtEnd.1 mRF_isAtEnd.1 ∈ gWS := gis (List.mem_of_getElem? (i := 71) rfl) rfl
set_option maxRecDepth 20000 in
theorem ws_RF_word : Cond.selects mRF_word.1.cls mRF_word.1 mRF_word.1 ∈ gWS := gis (List.mem_of_getElem? (i := 72) rfl) rfl
set_option maxRecDepth 20000 in
theorem ws_RF_digit : Cond.selects mRF_digit.1.cls mRF_digit.1 mRF_digit.1 ∈ gWS := gis (List.mem_of_getElem? (i := 73) rfl) rfl
set_option maxRecDepth 20000 in
theorem ws_RF_isDigit : Cond.selects mRF_isDigit.1.cls mRF_isDigit.1 mRF_isDigit.1 ∈ gWS := gis (List.mem_of_getElem? (i := 74) rfl) rfl
set_option maxRecDepth 20000 in
theorem ws_RF_bad : Cond.selects mRF_bad.1.cls mRF_bad.1 mRF_bad.1 ∈ gWS := gis (List.mem_of_getElem? (i := 75) rfl) rfl
set_option maxRecDepth 20000 in
theorem ws_RF_next : Cond.selects mRF_next.1.cls mRF_next.1 mRF_next.1 ∈ gWS := gis (List.mem_of_getElem? (i := 76) rfl) rfl
set_option maxRecDepth 20000 in
theorem ws_RF_must : Cond.selects mRF_must.1.cls mRF_must.1 mRF_must.1 ∈ gWS := gis (List.mem_of_getElem? (i := 77) rfl) rfl
set_option maxRecDepth 20000 in
theorem ws_RF_thing : Cond.selects mRF_thing.1.cls mRF_thing.1 mRF_thing.1 ∈ gWS := gis (List.mem_of_getElem? (i := 78) rfl) rfl
set_option maxRecDepth 20000 in
theorem ws_RF_rest : Cond.selects mRF_rest.1.cls mRF_rest.1 mRF_rest.1 ∈ gWS := gis (List.mem_of_getElem? (i := 79) rfl) rfl
