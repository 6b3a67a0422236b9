-- printed by tpl.py --facts
theorem gs_45 : gSf "RiddleMill$Speech" 45 = some false := by decide +kernel
theorem gs_83 : gSf "RiddleMill$Speech" 83 = some true := by decide +kernel
theorem cls_RM_init : mRM_init.1.cls = "RiddleMill" := rfl
theorem tn_RM_7 : gTn "RiddleMill" 7 = some 2 := by decide +kernel
theorem ms_2 : gMs 2 = true := by decide +kernel
theorem tn_RM_13 : gTn "RiddleMill" 13 = some 3 := by decide +kernel
theorem ms_3 : gMs 3 = true := by decide +kernel
theorem fp_RM_init_16 : gFp mRM_init.1 16 = some (5, 0) := by decide +kernel
theorem fp_RM_init_22 : gFp mRM_init.1 22 = some (5, 1) := by decide +kernel
theorem fp_RM_init_28 : gFp mRM_init.1 28 = some (5, 2) := by decide +kernel
theorem fp_RM_init_37 : gFp mRM_init.1 37 = some (5, 3) := by decide +kernel
theorem fp_RM_init_44 : gFp mRM_init.1 44 = some (5, 4) := by decide +kernel
theorem fp_RM_init_48 : gFp mRM_init.1 48 = some (5, 5) := by decide +kernel
theorem fp_RM_init_54 : gFp mRM_init.1 54 = some (5, 6) := by decide +kernel
theorem fp_RM_init_61 : gFp mRM_init.1 61 = some (5, 7) := by decide +kernel
theorem cls_CL_init : mCL_init.1.cls = "RiddleMill$ClueList" := rfl
theorem fp_CL_init_9 : gFp mCL_init.1 9 = some (0, 0) := by decide +kernel
theorem cls_WO_init : mWO_init.1.cls = "RiddleMill$Worlds" := rfl
theorem fp_WO_init_9 : gFp mWO_init.1 9 = some (4, 2) := by decide +kernel
theorem fp_WO_init_15 : gFp mWO_init.1 15 = some (4, 3) := by decide +kernel
theorem fp_WO_init_18 : gFp mWO_init.1 18 = some (4, 4) := by decide +kernel
theorem fp_WO_init_21 : gFp mWO_init.1 21 = some (4, 5) := by decide +kernel
theorem fp_WO_init_24 : gFp mWO_init.1 24 = some (4, 6) := by decide +kernel
theorem fp_WO_init_27 : gFp mWO_init.1 27 = some (4, 7) := by decide +kernel
theorem fp_WO_init_30 : gFp mWO_init.1 30 = some (4, 0) := by decide +kernel
theorem fp_WO_init_34 : gFp mWO_init.1 34 = some (4, 1) := by decide +kernel
theorem cls_PR_init : mPR_init.1.cls = "RiddleMill$Proof" := rfl
theorem fp_PR_init_9 : gFp mPR_init.1 9 = some (2, 2) := by decide +kernel
theorem fp_PR_init_15 : gFp mPR_init.1 15 = some (2, 3) := by decide +kernel
theorem fp_PR_init_18 : gFp mPR_init.1 18 = some (2, 4) := by decide +kernel
theorem fp_PR_init_21 : gFp mPR_init.1 21 = some (2, 5) := by decide +kernel
theorem fp_PR_init_24 : gFp mPR_init.1 24 = some (2, 6) := by decide +kernel
theorem fp_PR_init_27 : gFp mPR_init.1 27 = some (2, 0) := by decide +kernel
theorem fp_PR_init_31 : gFp mPR_init.1 31 = some (2, 1) := by decide +kernel
theorem cls_MA_init : mMA_init.1.cls = "RiddleMill$Maker" := rfl
theorem fp_MA_init_9 : gFp mMA_init.1 9 = some (1, 2) := by decide +kernel
theorem fp_MA_init_15 : gFp mMA_init.1 15 = some (1, 3) := by decide +kernel
theorem fp_MA_init_21 : gFp mMA_init.1 21 = some (1, 6) := by decide +kernel
theorem fp_MA_init_25 : gFp mMA_init.1 25 = some (1, 0) := by decide +kernel
theorem fp_MA_init_29 : gFp mMA_init.1 29 = some (1, 1) := by decide +kernel
theorem cls_SP_init : mSP_init.1.cls = "RiddleMill$Speech" := rfl
theorem fp_SP_init_9 : gFp mSP_init.1 9 = some (3, 0) := by decide +kernel
theorem fp_SP_init_15 : gFp mSP_init.1 15 = some (3, 1) := by decide +kernel
theorem fp_SP_init_19 : gFp mSP_init.1 19 = some (3, 3) := by decide +kernel
theorem fp_SP_init_22 : gFp mSP_init.1 22 = some (3, 5) := by decide +kernel
theorem fp_SP_init_26 : gFp mSP_init.1 26 = some (3, 7) := by decide +kernel
theorem cls_RM_clueAt : mRM_clueAt.1.cls = "RiddleMill" := rfl
theorem tn_RM_86 : gTn "RiddleMill" 86 = some 10 := by decide +kernel
theorem ms_10 : gMs 10 = false := by decide +kernel
theorem tn_RM_103 : gTn "RiddleMill" 103 = some 11 := by decide +kernel
theorem ms_11 : gMs 11 = true := by decide +kernel
theorem tn_RM_106 : gTn "RiddleMill" 106 = some 12 := by decide +kernel
theorem ms_12 : gMs 12 = true := by decide +kernel
theorem tn_RM_109 : gTn "RiddleMill" 109 = some 13 := by decide +kernel
theorem ms_13 : gMs 13 = true := by decide +kernel
theorem tn_RM_112 : gTn "RiddleMill" 112 = some 14 := by decide +kernel
theorem ms_14 : gMs 14 = true := by decide +kernel
theorem tn_RM_115 : gTn "RiddleMill" 115 = some 15 := by decide +kernel
theorem ms_15 : gMs 15 = true := by decide +kernel
theorem tn_RM_118 : gTn "RiddleMill" 118 = some 16 := by decide +kernel
theorem ms_16 : gMs 16 = true := by decide +kernel
theorem cls_CL_has : mCL_has.1.cls = "RiddleMill$ClueList" := rfl
theorem cls_CO_kind : mCO_kind.1.cls = "RiddleMill$Code" := rfl
theorem cls_CO_x : mCO_x.1.cls = "RiddleMill$Code" := rfl
theorem cls_CO_y : mCO_y.1.cls = "RiddleMill$Code" := rfl
theorem cls_CO_z : mCO_z.1.cls = "RiddleMill$Code" := rfl
theorem cls_CO_d : mCO_d.1.cls = "RiddleMill$Code" := rfl
theorem cls_CO_speaker : mCO_speaker.1.cls = "RiddleMill$Code" := rfl
theorem cls_RM_answer : mRM_answer.1.cls = "RiddleMill" := rfl
theorem tn_RM_127 : gTn "RiddleMill" 127 = some 18 := by decide +kernel
theorem ms_18 : gMs 18 = false := by decide +kernel
theorem tn_RM_130 : gTn "RiddleMill" 130 = some 19 := by decide +kernel
theorem ms_19 : gMs 19 = false := by decide +kernel
theorem cls_RM_isThing : mRM_isThing.1.cls = "RiddleMill" := rfl
theorem cls_WO_alike : mWO_alike.1.cls = "RiddleMill$Worlds" := rfl
theorem tn_WO_37 : gTn "RiddleMill$Worlds" 37 = some 20 := by decide +kernel
theorem ms_20 : gMs 20 = false := by decide +kernel
theorem fp_WO_alike_63 : gFp mWO_alike.1 63 = some (4, 10) := by decide +kernel
theorem tn_WO_44 : gTn "RiddleMill$Worlds" 44 = some 22 := by decide +kernel
theorem ms_22 : gMs 22 = false := by decide +kernel
theorem tn_WO_69 : gTn "RiddleMill$Worlds" 69 = some 25 := by decide +kernel
theorem ms_25 : gMs 25 = true := by decide +kernel
theorem tn_WO_73 : gTn "RiddleMill$Worlds" 73 = some 24 := by decide +kernel
theorem ms_24 : gMs 24 = true := by decide +kernel
theorem cls_WO_prepare : mWO_prepare.1.cls = "RiddleMill$Worlds" := rfl
theorem ki_WO_79 : gKi "RiddleMill$Worlds" 79 = some 1000000 := by decide +kernel
theorem fp_WO_prepare_41 : gFp mWO_prepare.1 41 = some (4, 8) := by decide +kernel
theorem fp_WO_prepare_57 : gFp mWO_prepare.1 57 = some (4, 9) := by decide +kernel
theorem fp_WO_prepare_63 : gFp mWO_prepare.1 63 = some (4, 10) := by decide +kernel
theorem fp_WO_prepare_48 : gFp mWO_prepare.1 48 = some (4, 11) := by decide +kernel
theorem fp_WO_prepare_60 : gFp mWO_prepare.1 60 = some (4, 12) := by decide +kernel
theorem fp_WO_prepare_66 : gFp mWO_prepare.1 66 = some (4, 13) := by decide +kernel
theorem fp_WO_prepare_80 : gFp mWO_prepare.1 80 = some (4, 14) := by decide +kernel
theorem tn_WO_92 : gTn "RiddleMill$Worlds" 92 = some 21 := by decide +kernel
theorem ms_21 : gMs 21 = false := by decide +kernel
theorem cls_WO_dueAt : mWO_dueAt.1.cls = "RiddleMill$Worlds" := rfl
theorem tn_WO_95 : gTn "RiddleMill$Worlds" 95 = some 12 := by decide +kernel
theorem tn_WO_100 : gTn "RiddleMill$Worlds" 100 = some 13 := by decide +kernel
theorem tn_WO_103 : gTn "RiddleMill$Worlds" 103 = some 14 := by decide +kernel
theorem tn_WO_106 : gTn "RiddleMill$Worlds" 106 = some 3 := by decide +kernel
theorem tn_WO_109 : gTn "RiddleMill$Worlds" 109 = some 11 := by decide +kernel
theorem tn_WO_112 : gTn "RiddleMill$Worlds" 112 = some 15 := by decide +kernel
theorem cls_WO_placeFrom : mWO_placeFrom.1.cls = "RiddleMill$Worlds" := rfl
theorem tn_WO_115 : gTn "RiddleMill$Worlds" 115 = some 23 := by decide +kernel
theorem ms_23 : gMs 23 = false := by decide +kernel
theorem tn_WO_119 : gTn "RiddleMill$Worlds" 119 = some 26 := by decide +kernel
theorem ms_26 : gMs 26 = false := by decide +kernel
theorem cls_WO_take : mWO_take.1.cls = "RiddleMill$Worlds" := rfl
theorem fp_WO_take_60 : gFp mWO_take.1 60 = some (4, 12) := by decide +kernel
theorem fp_WO_take_48 : gFp mWO_take.1 48 = some (4, 11) := by decide +kernel
theorem fp_WO_take_66 : gFp mWO_take.1 66 = some (4, 13) := by decide +kernel
theorem fp_WO_take_80 : gFp mWO_take.1 80 = some (4, 14) := by decide +kernel
theorem cls_JI_bitCount : mJI_bitCount.1.cls = "java/lang/Integer" := rfl
theorem ki_JI_265 : gKi "java/lang/Integer" 265 = some 1431655765 := by decide +kernel
theorem ki_JI_266 : gKi "java/lang/Integer" 266 = some 858993459 := by decide +kernel
theorem ki_JI_267 : gKi "java/lang/Integer" 267 = some 252645135 := by decide +kernel
theorem cls_WO_isMany : mWO_isMany.1.cls = "RiddleMill$Worlds" := rfl
theorem cls_WO_heard : mWO_heard.1.cls = "RiddleMill$Worlds" := rfl
theorem tn_WO_122 : gTn "RiddleMill$Worlds" 122 = some 27 := by decide +kernel
theorem ms_27 : gMs 27 = true := by decide +kernel
theorem tn_WO_126 : gTn "RiddleMill$Worlds" 126 = some 16 := by decide +kernel
theorem cls_CO_isSo : mCO_isSo.1.cls = "RiddleMill$Code" := rfl
theorem cls_RM_prove : mRM_prove.1.cls = "RiddleMill" := rfl
theorem tn_RM_137 : gTn "RiddleMill" 137 = some 29 := by decide +kernel
theorem ms_29 : gMs 29 = false := by decide +kernel
theorem cls_PR_run : mPR_run.1.cls = "RiddleMill$Proof" := rfl
theorem fp_PR_run_34 : gFp mPR_run.1 34 = some (2, 7) := by decide +kernel
theorem fp_PR_run_37 : gFp mPR_run.1 37 = some (2, 8) := by decide +kernel
theorem fp_PR_run_40 : gFp mPR_run.1 40 = some (2, 9) := by decide +kernel
theorem tn_PR_44 : gTn "RiddleMill$Proof" 44 = some 30 := by decide +kernel
theorem ms_30 : gMs 30 = true := by decide +kernel
theorem tn_PR_50 : gTn "RiddleMill$Proof" 50 = some 31 := by decide +kernel
theorem ms_31 : gMs 31 = false := by decide +kernel
theorem tn_PR_54 : gTn "RiddleMill$Proof" 54 = some 37 := by decide +kernel
theorem ms_37 : gMs 37 = false := by decide +kernel
theorem tn_PR_58 : gTn "RiddleMill$Proof" 58 = some 44 := by decide +kernel
theorem ms_44 : gMs 44 = false := by decide +kernel
theorem cls_CO_thingAt : mCO_thingAt.1.cls = "RiddleMill$Code" := rfl
theorem cls_PR_bySort : mPR_bySort.1.cls = "RiddleMill$Proof" := rfl
theorem tn_PR_68 : gTn "RiddleMill$Proof" 68 = some 32 := by decide +kernel
theorem ms_32 : gMs 32 = false := by decide +kernel
theorem tn_PR_62 : gTn "RiddleMill$Proof" 62 = some 24 := by decide +kernel
theorem tn_PR_71 : gTn "RiddleMill$Proof" 71 = some 36 := by decide +kernel
theorem ms_36 : gMs 36 = false := by decide +kernel
theorem cls_PR_barred : mPR_barred.1.cls = "RiddleMill$Proof" := rfl
theorem tn_PR_75 : gTn "RiddleMill$Proof" 75 = some 33 := by decide +kernel
theorem ms_33 : gMs 33 = false := by decide +kernel
theorem tn_PR_78 : gTn "RiddleMill$Proof" 78 = some 34 := by decide +kernel
theorem ms_34 : gMs 34 = false := by decide +kernel
theorem tn_PR_81 : gTn "RiddleMill$Proof" 81 = some 35 := by decide +kernel
theorem ms_35 : gMs 35 = false := by decide +kernel
theorem cls_PR_barredByLone : mPR_barredByLone.1.cls = "RiddleMill$Proof" := rfl
theorem cls_PR_barredByOwn : mPR_barredByOwn.1.cls = "RiddleMill$Proof" := rfl
theorem cls_PR_barredByPairs : mPR_barredByPairs.1.cls = "RiddleMill$Proof" := rfl
theorem cls_PR_take : mPR_take.1.cls = "RiddleMill$Proof" := rfl
theorem fp_PR_take_34 : gFp mPR_take.1 34 = some (2, 7) := by decide +kernel
theorem fp_PR_take_40 : gFp mPR_take.1 40 = some (2, 9) := by decide +kernel
theorem tn_PR_131 : gTn "RiddleMill$Proof" 131 = some 3 := by decide +kernel
theorem fp_PR_take_37 : gFp mPR_take.1 37 = some (2, 8) := by decide +kernel
theorem cls_PR_byClues : mPR_byClues.1.cls = "RiddleMill$Proof" := rfl
theorem tn_PR_92 : gTn "RiddleMill$Proof" 92 = some 16 := by decide +kernel
theorem tn_PR_95 : gTn "RiddleMill$Proof" 95 = some 11 := by decide +kernel
theorem tn_PR_98 : gTn "RiddleMill$Proof" 98 = some 38 := by decide +kernel
theorem ms_38 : gMs 38 = true := by decide +kernel
theorem tn_PR_101 : gTn "RiddleMill$Proof" 101 = some 40 := by decide +kernel
theorem ms_40 : gMs 40 = false := by decide +kernel
theorem cls_CO_ruleOf : mCO_ruleOf.1.cls = "RiddleMill$Code" := rfl
theorem tn_CO_9 : gTn "RiddleMill$Code" 9 = some 39 := by decide +kernel
theorem ms_39 : gMs 39 = true := by decide +kernel
theorem cls_CO_thingsOf : mCO_thingsOf.1.cls = "RiddleMill$Code" := rfl
theorem cls_PR_byClue : mPR_byClue.1.cls = "RiddleMill$Proof" := rfl
theorem tn_PR_105 : gTn "RiddleMill$Proof" 105 = some 41 := by decide +kernel
theorem ms_41 : gMs 41 = true := by decide +kernel
theorem tn_PR_108 : gTn "RiddleMill$Proof" 108 = some 42 := by decide +kernel
theorem ms_42 : gMs 42 = false := by decide +kernel
theorem cls_CO_thingAfter : mCO_thingAfter.1.cls = "RiddleMill$Code" := rfl
theorem tn_CO_15 : gTn "RiddleMill$Code" 15 = some 12 := by decide +kernel
theorem tn_CO_18 : gTn "RiddleMill$Code" 18 = some 13 := by decide +kernel
theorem tn_CO_21 : gTn "RiddleMill$Code" 21 = some 14 := by decide +kernel
theorem cls_PR_canBeSo : mPR_canBeSo.1.cls = "RiddleMill$Proof" := rfl
theorem tn_PR_111 : gTn "RiddleMill$Proof" 111 = some 15 := by decide +kernel
theorem tn_PR_114 : gTn "RiddleMill$Proof" 114 = some 12 := by decide +kernel
theorem tn_PR_117 : gTn "RiddleMill$Proof" 117 = some 13 := by decide +kernel
theorem tn_PR_120 : gTn "RiddleMill$Proof" 120 = some 14 := by decide +kernel
theorem tn_PR_123 : gTn "RiddleMill$Proof" 123 = some 43 := by decide +kernel
theorem ms_43 : gMs 43 = false := by decide +kernel
theorem tn_PR_127 : gTn "RiddleMill$Proof" 127 = some 27 := by decide +kernel
theorem cls_PR_bitsFor : mPR_bitsFor.1.cls = "RiddleMill$Proof" := rfl
theorem cls_PR_isSolved : mPR_isSolved.1.cls = "RiddleMill$Proof" := rfl
theorem cls_RM_step : mRM_step.1.cls = "RiddleMill" := rfl
theorem cls_RM_may : mRM_may.1.cls = "RiddleMill" := rfl
theorem cls_RM_rating : mRM_rating.1.cls = "RiddleMill" := rfl
theorem cls_RM_name : mRM_name.1.cls = "RiddleMill" := rfl
theorem tn_RM_175 : gTn "RiddleMill" 175 = some 49 := by decide +kernel
theorem ms_49 : gMs 49 = false := by decide +kernel
theorem cls_SP_giveName : mSP_giveName.1.cls = "RiddleMill$Speech" := rfl
theorem tn_SP_29 : gTn "RiddleMill$Speech" 29 = some 50 := by decide +kernel
theorem ms_50 : gMs 50 = true := by decide +kernel
theorem kl_SP_33 : gKl "RiddleMill$Speech" 33 = some (-1) := by decide +kernel
theorem tn_SP_35 : gTn "RiddleMill$Speech" 35 = some 51 := by decide +kernel
theorem ms_51 : gMs 51 = true := by decide +kernel
theorem tn_SP_39 : gTn "RiddleMill$Speech" 39 = some 52 := by decide +kernel
theorem ms_52 : gMs 52 = false := by decide +kernel
theorem cls_SP_wordOf : mSP_wordOf.1.cls = "RiddleMill$Speech" := rfl
theorem kl_SP_43 : gKl "RiddleMill$Speech" 43 = some 255 := by decide +kernel
theorem cls_SP_isWord : mSP_isWord.1.cls = "RiddleMill$Speech" := rfl
theorem cls_SP_thingNamed : mSP_thingNamed.1.cls = "RiddleMill$Speech" := rfl
theorem cls_RM_print : mRM_print.1.cls = "RiddleMill" := rfl
theorem tn_RM_179 : gTn "RiddleMill" 179 = some 54 := by decide +kernel
theorem ms_54 : gMs 54 = false := by decide +kernel
theorem cls_SP_show : mSP_show.1.cls = "RiddleMill$Speech" := rfl
theorem tn_SP_48 : gTn "RiddleMill$Speech" 48 = some 12 := by decide +kernel
theorem tn_SP_54 : gTn "RiddleMill$Speech" 54 = some 55 := by decide +kernel
theorem ms_55 : gMs 55 = false := by decide +kernel
theorem tn_SP_58 : gTn "RiddleMill$Speech" 58 = some 13 := by decide +kernel
theorem tn_SP_61 : gTn "RiddleMill$Speech" 61 = some 14 := by decide +kernel
theorem tn_SP_64 : gTn "RiddleMill$Speech" 64 = some 15 := by decide +kernel
theorem fp_SP_show_67 : gFp mSP_show.1 67 = some (3, 4) := by decide +kernel
theorem tn_SP_70 : gTn "RiddleMill$Speech" 70 = some 16 := by decide +kernel
theorem tn_SP_73 : gTn "RiddleMill$Speech" 73 = some 56 := by decide +kernel
theorem ms_56 : gMs 56 = false := by decide +kernel
theorem kl_SP_77 : gKl "RiddleMill$Speech" 77 = some 1935767923 := by decide +kernel
theorem tn_SP_79 : gTn "RiddleMill$Speech" 79 = some 57 := by decide +kernel
theorem ms_57 : gMs 57 = false := by decide +kernel
theorem tn_SP_86 : gTn "RiddleMill$Speech" 86 = some 11 := by decide +kernel
theorem kl_SP_89 : gKl "RiddleMill$Speech" 89 = some 4 := by decide +kernel
theorem cls_SP_lacksName : mSP_lacksName.1.cls = "RiddleMill$Speech" := rfl
theorem cls_SP_put : mSP_put.1.cls = "RiddleMill$Speech" := rfl
theorem fp_SP_put_67 : gFp mSP_put.1 67 = some (3, 4) := by decide +kernel
theorem cls_SP_putWord : mSP_putWord.1.cls = "RiddleMill$Speech" := rfl
theorem cls_RM_shown : mRM_shown.1.cls = "RiddleMill" := rfl
theorem cls_RM_type : mRM_type.1.cls = "RiddleMill" := rfl
theorem tn_RM_188 : gTn "RiddleMill" 188 = some 60 := by decide +kernel
theorem ms_60 : gMs 60 = false := by decide +kernel
theorem cls_SP_append : mSP_append.1.cls = "RiddleMill$Speech" := rfl
theorem fp_SP_append_91 : gFp mSP_append.1 91 = some (3, 2) := by decide +kernel
theorem cls_RM_fault : mRM_fault.1.cls = "RiddleMill" := rfl
theorem cls_RM_about : mRM_about.1.cls = "RiddleMill" := rfl
theorem cls_LW_cell : mLW_cell.1.cls = "RiddleMillLaw" := rfl
theorem cls_RM_clue : mRM_clue.1.cls = "RiddleMill" := rfl
theorem tn_RM_65 : gTn "RiddleMill" 65 = some 65 := by decide +kernel
theorem ms_65 : gMs 65 = false := by decide +kernel
theorem tn_RM_76 : gTn "RiddleMill" 76 = some 73 := by decide +kernel
theorem ms_73 : gMs 73 = true := by decide +kernel
theorem tn_RM_82 : gTn "RiddleMill" 82 = some 74 := by decide +kernel
theorem ms_74 : gMs 74 = false := by decide +kernel
theorem cls_RM_isAsTold : mRM_isAsTold.1.cls = "RiddleMill" := rfl
theorem tn_RM_218 : gTn "RiddleMill" 218 = some 39 := by decide +kernel
theorem tn_RM_221 : gTn "RiddleMill" 221 = some 66 := by decide +kernel
theorem ms_66 : gMs 66 = true := by decide +kernel
theorem tn_RM_224 : gTn "RiddleMill" 224 = some 67 := by decide +kernel
theorem ms_67 : gMs 67 = true := by decide +kernel
theorem cls_CO_leastD : mCO_leastD.1.cls = "RiddleMill$Code" := rfl
theorem cls_CO_greatestD : mCO_greatestD.1.cls = "RiddleMill$Code" := rfl
theorem cls_CO_of : mCO_of.1.cls = "RiddleMill$Code" := rfl
theorem cls_RM_added : mRM_added.1.cls = "RiddleMill" := rfl
theorem tn_RM_207 : gTn "RiddleMill" 207 = some 75 := by decide +kernel
theorem ms_75 : gMs 75 = false := by decide +kernel
theorem tn_RM_215 : gTn "RiddleMill" 215 = some 77 := by decide +kernel
theorem ms_77 : gMs 77 = false := by decide +kernel
theorem cls_CL_contains : mCL_contains.1.cls = "RiddleMill$ClueList" := rfl
theorem cls_CL_add : mCL_add.1.cls = "RiddleMill$ClueList" := rfl
theorem fp_CL_add_15 : gFp mCL_add.1 15 = some (0, 1) := by decide +kernel
theorem cls_RM_drop : mRM_drop.1.cls = "RiddleMill" := rfl
theorem tn_RM_95 : gTn "RiddleMill" 95 = some 80 := by decide +kernel
theorem ms_80 : gMs 80 = false := by decide +kernel
theorem cls_CL_removeAt : mCL_removeAt.1.cls = "RiddleMill$ClueList" := rfl
theorem tn_CL_19 : gTn "RiddleMill$ClueList" 19 = some 10 := by decide +kernel
theorem fp_CL_removeAt_15 : gFp mCL_removeAt.1 15 = some (0, 1) := by decide +kernel
theorem cls_RM_count : mRM_count.1.cls = "RiddleMill" := rfl
theorem tn_RM_123 : gTn "RiddleMill" 123 = some 82 := by decide +kernel
theorem ms_82 : gMs 82 = false := by decide +kernel
theorem cls_WO_number : mWO_number.1.cls = "RiddleMill$Worlds" := rfl
theorem fp_WO_number_41 : gFp mWO_number.1 41 = some (4, 8) := by decide +kernel
theorem tn_WO_51 : gTn "RiddleMill$Worlds" 51 = some 2 := by decide +kernel
theorem cls_RM_needed : mRM_needed.1.cls = "RiddleMill" := rfl
theorem tn_RM_133 : gTn "RiddleMill" 133 = some 84 := by decide +kernel
theorem ms_84 : gMs 84 = false := by decide +kernel
theorem cls_WO_differ : mWO_differ.1.cls = "RiddleMill$Worlds" := rfl
theorem fp_WO_differ_57 : gFp mWO_differ.1 57 = some (4, 9) := by decide +kernel
theorem cls_RM_make : mRM_make.1.cls = "RiddleMill" := rfl
theorem ki_RM_162 : gKi "RiddleMill" 162 = some 2147483646 := by decide +kernel
theorem tn_RM_165 : gTn "RiddleMill" 165 = some 86 := by decide +kernel
theorem ms_86 : gMs 86 = false := by decide +kernel
theorem tn_RM_172 : gTn "RiddleMill" 172 = some 95 := by decide +kernel
theorem ms_95 : gMs 95 = false := by decide +kernel
theorem cls_MA_find : mMA_find.1.cls = "RiddleMill$Maker" := rfl
theorem fp_MA_find_32 : gFp mMA_find.1 32 = some (1, 5) := by decide +kernel
theorem tn_MA_36 : gTn "RiddleMill$Maker" 36 = some 87 := by decide +kernel
theorem ms_87 : gMs 87 = false := by decide +kernel
theorem tn_MA_39 : gTn "RiddleMill$Maker" 39 = some 89 := by decide +kernel
theorem ms_89 : gMs 89 = false := by decide +kernel
theorem tn_MA_42 : gTn "RiddleMill$Maker" 42 = some 93 := by decide +kernel
theorem ms_93 : gMs 93 = false := by decide +kernel
theorem fp_MA_find_45 : gFp mMA_find.1 45 = some (0, 1) := by decide +kernel
theorem tn_MA_51 : gTn "RiddleMill$Maker" 51 = some 77 := by decide +kernel
theorem tn_MA_55 : gTn "RiddleMill$Maker" 55 = some 84 := by decide +kernel
theorem tn_MA_61 : gTn "RiddleMill$Maker" 61 = some 94 := by decide +kernel
theorem ms_94 : gMs 94 = false := by decide +kernel
theorem tn_MA_65 : gTn "RiddleMill$Maker" 65 = some 29 := by decide +kernel
theorem cls_MA_drawWorld : mMA_drawWorld.1.cls = "RiddleMill$Maker" := rfl
theorem tn_MA_78 : gTn "RiddleMill$Maker" 78 = some 30 := by decide +kernel
theorem tn_MA_84 : gTn "RiddleMill$Maker" 84 = some 88 := by decide +kernel
theorem ms_88 : gMs 88 = false := by decide +kernel
theorem cls_MA_draw : mMA_draw.1.cls = "RiddleMill$Maker" := rfl
theorem kl_MA_74 : gKl "RiddleMill$Maker" 74 = some 48271 := by decide +kernel
theorem kl_MA_76 : gKl "RiddleMill$Maker" 76 = some 2147483647 := by decide +kernel
theorem fp_MA_draw_32 : gFp mMA_draw.1 32 = some (1, 5) := by decide +kernel
theorem cls_MA_gather : mMA_gather.1.cls = "RiddleMill$Maker" := rfl
theorem fp_MA_gather_48 : gFp mMA_gather.1 48 = some (1, 4) := by decide +kernel
theorem tn_MA_88 : gTn "RiddleMill$Maker" 88 = some 90 := by decide +kernel
theorem ms_90 : gMs 90 = false := by decide +kernel
theorem cls_MA_gatherFor : mMA_gatherFor.1.cls = "RiddleMill$Maker" := rfl
theorem tn_MA_92 : gTn "RiddleMill$Maker" 92 = some 91 := by decide +kernel
theorem ms_91 : gMs 91 = false := by decide +kernel
theorem tn_MA_96 : gTn "RiddleMill$Maker" 96 = some 92 := by decide +kernel
theorem ms_92 : gMs 92 = true := by decide +kernel
theorem cls_MA_consider : mMA_consider.1.cls = "RiddleMill$Maker" := rfl
theorem tn_MA_100 : gTn "RiddleMill$Maker" 100 = some 66 := by decide +kernel
theorem tn_MA_103 : gTn "RiddleMill$Maker" 103 = some 67 := by decide +kernel
theorem tn_MA_107 : gTn "RiddleMill$Maker" 107 = some 27 := by decide +kernel
theorem tn_MA_111 : gTn "RiddleMill$Maker" 111 = some 73 := by decide +kernel
theorem fp_MA_consider_48 : gFp mMA_consider.1 48 = some (1, 4) := by decide +kernel
theorem cls_MA_isPair : mMA_isPair.1.cls = "RiddleMill$Maker" := rfl
theorem cls_MA_mix : mMA_mix.1.cls = "RiddleMill$Maker" := rfl
theorem cls_MA_thinOut : mMA_thinOut.1.cls = "RiddleMill$Maker" := rfl
theorem tn_MA_115 : gTn "RiddleMill$Maker" 115 = some 80 := by decide +kernel
theorem cls_CL_takeAll : mCL_takeAll.1.cls = "RiddleMill$ClueList" := rfl
theorem fp_CL_takeAll_15 : gFp mCL_takeAll.1 15 = some (0, 1) := by decide +kernel
theorem cls_RM_read : mRM_read.1.cls = "RiddleMill" := rfl
theorem tn_RM_192 : gTn "RiddleMill" 192 = some 97 := by decide +kernel
theorem ms_97 : gMs 97 = false := by decide +kernel
theorem fp_RM_read_201 : gFp mRM_read.1 201 = some (3, 5) := by decide +kernel
theorem cls_SP_parse : mSP_parse.1.cls = "RiddleMill$Speech" := rfl
theorem fp_SP_parse_94 : gFp mSP_parse.1 94 = some (3, 10) := by decide +kernel
theorem fp_SP_parse_91 : gFp mSP_parse.1 91 = some (3, 2) := by decide +kernel
theorem fp_SP_parse_97 : gFp mSP_parse.1 97 = some (3, 8) := by decide +kernel
theorem fp_SP_parse_22 : gFp mSP_parse.1 22 = some (3, 5) := by decide +kernel
theorem tn_SP_100 : gTn "RiddleMill$Speech" 100 = some 98 := by decide +kernel
theorem ms_98 : gMs 98 = false := by decide +kernel
theorem tn_SP_104 : gTn "RiddleMill$Speech" 104 = some 100 := by decide +kernel
theorem ms_100 : gMs 100 = false := by decide +kernel
theorem tn_SP_108 : gTn "RiddleMill$Speech" 108 = some 99 := by decide +kernel
theorem ms_99 : gMs 99 = false := by decide +kernel
theorem tn_SP_112 : gTn "RiddleMill$Speech" 112 = some 101 := by decide +kernel
theorem ms_101 : gMs 101 = false := by decide +kernel
theorem cls_SP_readSpeaker : mSP_readSpeaker.1.cls = "RiddleMill$Speech" := rfl
theorem kl_SP_119 : gKl "RiddleMill$Speech" 119 = some 48 := by decide +kernel
theorem kl_SP_121 : gKl "RiddleMill$Speech" 121 = some 49 := by decide +kernel
theorem fp_SP_readSpeaker_97 : gFp mSP_readSpeaker.1 97 = some (3, 8) := by decide +kernel
theorem fp_SP_readSpeaker_22 : gFp mSP_readSpeaker.1 22 = some (3, 5) := by decide +kernel
theorem cls_SP_readWord : mSP_readWord.1.cls = "RiddleMill$Speech" := rfl
theorem fp_SP_readWord_116 : gFp mSP_readWord.1 116 = some (3, 9) := by decide +kernel
theorem cls_SP_isEnded : mSP_isEnded.1.cls = "RiddleMill$Speech" := rfl
theorem tn_SP_129 : gTn "RiddleMill$Speech" 129 = some 73 := by decide +kernel
theorem fp_SP_isEnded_133 : gFp mSP_isEnded.1 133 = some (3, 6) := by decide +kernel
theorem fp_SP_isEnded_22 : gFp mSP_isEnded.1 22 = some (3, 5) := by decide +kernel
theorem cls_SP_goingOn : mSP_goingOn.1.cls = "RiddleMill$Speech" := rfl
theorem tn_SP_123 : gTn "RiddleMill$Speech" 123 = some 102 := by decide +kernel
theorem ms_102 : gMs 102 = false := by decide +kernel
theorem cls_SP_meaning : mSP_meaning.1.cls = "RiddleMill$Speech" := rfl
theorem kl_SP_127 : gKl "RiddleMill$Speech" 127 = some 57 := by decide +kernel
theorem cls_RF_init : mRF_init.1.cls = "RiddleMillModel" := rfl
theorem kl_RF_9 : gKl "RiddleMillModel" 9 = some 26995 := by decide +kernel
theorem kl_RF_11 : gKl "RiddleMillModel" 11 = some 7237492 := by decide +kernel
theorem kl_RF_13 : gKl "RiddleMillModel" 13 = some 1818584692 := by decide +kernel
theorem kl_RF_15 : gKl "RiddleMillModel" 15 = some 1852143732 := by decide +kernel
theorem kl_RF_17 : gKl "RiddleMillModel" 17 = some 28518 := by decide +kernel
theorem kl_RF_19 : gKl "RiddleMillModel" 19 = some 29807 := by decide +kernel
theorem kl_RF_21 : gKl "RiddleMillModel" 21 = some 1718775661 := by decide +kernel
theorem kl_RF_23 : gKl "RiddleMillModel" 23 = some 27696098611389806 := by decide +kernel
theorem kl_RF_25 : gKl "RiddleMillModel" 25 = some 6385252 := by decide +kernel
theorem kl_RF_27 : gKl "RiddleMillModel" 27 = some 24948 := by decide +kernel
theorem kl_RF_29 : gKl "RiddleMillModel" 29 = some 28530 := by decide +kernel
theorem kl_RF_31 : gKl "RiddleMillModel" 31 = some 111503598970226 := by decide +kernel
theorem kl_RF_33 : gKl "RiddleMillModel" 33 = some 504363246962 := by decide +kernel
theorem kl_RF_35 : gKl "RiddleMillModel" 35 = some 26990 := by decide +kernel
theorem kl_RF_37 : gKl "RiddleMillModel" 37 = some 1935767923 := by decide +kernel
theorem fp_RF_init_39 : gFp mRF_init.1 39 = some (6, 0) := by decide +kernel
theorem fp_RF_init_43 : gFp mRF_init.1 43 = some (6, 5) := by decide +kernel
theorem fp_RF_init_47 : gFp mRF_init.1 47 = some (6, 8) := by decide +kernel
theorem fp_RF_init_50 : gFp mRF_init.1 50 = some (6, 9) := by decide +kernel
theorem fp_RF_init_53 : gFp mRF_init.1 53 = some (6, 10) := by decide +kernel
theorem fp_RF_init_56 : gFp mRF_init.1 56 = some (6, 13) := by decide +kernel
theorem fp_RF_init_59 : gFp mRF_init.1 59 = some (6, 14) := by decide +kernel
theorem fp_RF_init_62 : gFp mRF_init.1 62 = some (6, 15) := by decide +kernel
theorem fp_RF_init_65 : gFp mRF_init.1 65 = some (6, 16) := by decide +kernel
theorem fp_RF_init_68 : gFp mRF_init.1 68 = some (6, 17) := by decide +kernel
theorem fp_RF_init_71 : gFp mRF_init.1 71 = some (6, 18) := by decide +kernel
theorem fp_RF_init_75 : gFp mRF_init.1 75 = some (6, 19) := by decide +kernel
theorem fp_RF_init_78 : gFp mRF_init.1 78 = some (6, 22) := by decide +kernel
theorem fp_RF_init_82 : gFp mRF_init.1 82 = some (6, 25) := by decide +kernel
theorem fp_RF_init_85 : gFp mRF_init.1 85 = some (6, 2) := by decide +kernel
theorem fp_RF_init_88 : gFp mRF_init.1 88 = some (6, 3) := by decide +kernel
theorem fp_RF_init_91 : gFp mRF_init.1 91 = some (6, 4) := by decide +kernel
theorem cls_RF_thrown : mRF_thrown.1.cls = "RiddleMillModel" := rfl
theorem cls_RF_clue : mRF_clue.1.cls = "RiddleMillModel" := rfl
theorem tn_RF_104 : gTn "RiddleMillModel" 104 = some 106 := by decide +kernel
theorem ms_106 : gMs 106 = false := by decide +kernel
theorem tn_RF_108 : gTn "RiddleMillModel" 108 = some 108 := by decide +kernel
theorem ms_108 : gMs 108 = false := by decide +kernel
theorem fp_RF_clue_94 : gFp mRF_clue.1 94 = some (6, 1) := by decide +kernel
theorem tn_RF_111 : gTn "RiddleMillModel" 111 = some 109 := by decide +kernel
theorem ms_109 : gMs 109 = false := by decide +kernel
theorem fp_RF_clue_101 : gFp mRF_clue.1 101 = some (6, 6) := by decide +kernel
theorem cls_RF_isClue : mRF_isClue.1.cls = "RiddleMillModel" := rfl
theorem tn_RF_97 : gTn "RiddleMillModel" 97 = some 107 := by decide +kernel
theorem ms_107 : gMs 107 = false := by decide +kernel
theorem cls_RF_isThing : mRF_isThing.1.cls = "RiddleMillModel" := rfl
theorem cls_RF_isThere : mRF_isThere.1.cls = "RiddleMillModel" := rfl
theorem cls_RF_put : mRF_put.1.cls = "RiddleMillModel" := rfl
theorem cls_RF_drop : mRF_drop.1.cls = "RiddleMillModel" := rfl
theorem fp_RF_drop_94 : gFp mRF_drop.1 94 = some (6, 1) := by decide +kernel
theorem tn_RF_115 : gTn "RiddleMillModel" 115 = some 111 := by decide +kernel
theorem ms_111 : gMs 111 = false := by decide +kernel
theorem cls_RF_remove : mRF_remove.1.cls = "RiddleMillModel" := rfl
theorem fp_RF_remove_101 : gFp mRF_remove.1 101 = some (6, 6) := by decide +kernel
theorem cls_RF_clueAt : mRF_clueAt.1.cls = "RiddleMillModel" := rfl
theorem fp_RF_clueAt_94 : gFp mRF_clueAt.1 94 = some (6, 1) := by decide +kernel
theorem cls_RF_count : mRF_count.1.cls = "RiddleMillModel" := rfl
theorem fp_RF_count_94 : gFp mRF_count.1 94 = some (6, 1) := by decide +kernel
theorem tn_RF_134 : gTn "RiddleMillModel" 134 = some 114 := by decide +kernel
theorem ms_114 : gMs 114 = false := by decide +kernel
theorem tn_RF_138 : gTn "RiddleMillModel" 138 = some 115 := by decide +kernel
theorem ms_115 : gMs 115 = false := by decide +kernel
theorem tn_RF_141 : gTn "RiddleMillModel" 141 = some 116 := by decide +kernel
theorem ms_116 : gMs 116 = false := by decide +kernel
theorem tn_RF_144 : gTn "RiddleMillModel" 144 = some 121 := by decide +kernel
theorem ms_121 : gMs 121 = true := by decide +kernel
theorem cls_RF_worlds : mRF_worlds.1.cls = "RiddleMillModel" := rfl
theorem cls_RF_lay : mRF_lay.1.cls = "RiddleMillModel" := rfl
theorem cls_RF_speakers : mRF_speakers.1.cls = "RiddleMillModel" := rfl
theorem tn_RF_131 : gTn "RiddleMillModel" 131 = some 117 := by decide +kernel
theorem ms_117 : gMs 117 = false := by decide +kernel
theorem cls_RF_isSo : mRF_isSo.1.cls = "RiddleMillModel" := rfl
theorem tn_RF_123 : gTn "RiddleMillModel" 123 = some 118 := by decide +kernel
theorem ms_118 : gMs 118 = true := by decide +kernel
theorem tn_RF_127 : gTn "RiddleMillModel" 127 = some 119 := by decide +kernel
theorem ms_119 : gMs 119 = false := by decide +kernel
theorem cls_RF_index : mRF_index.1.cls = "RiddleMillModel" := rfl
theorem cls_RF_says : mRF_says.1.cls = "RiddleMillModel" := rfl
theorem tn_RF_119 : gTn "RiddleMillModel" 119 = some 120 := by decide +kernel
theorem ms_120 : gMs 120 = false := by decide +kernel
theorem cls_RF_standing : mRF_standing.1.cls = "RiddleMillModel" := rfl
theorem cls_RF_many : mRF_many.1.cls = "RiddleMillModel" := rfl
theorem cls_RF_answer : mRF_answer.1.cls = "RiddleMillModel" := rfl
theorem fp_RF_answer_94 : gFp mRF_answer.1 94 = some (6, 1) := by decide +kernel
theorem cls_RF_needed : mRF_needed.1.cls = "RiddleMillModel" := rfl
theorem fp_RF_needed_94 : gFp mRF_needed.1 94 = some (6, 1) := by decide +kernel
theorem tn_RF_147 : gTn "RiddleMillModel" 147 = some 124 := by decide +kernel
theorem ms_124 : gMs 124 = false := by decide +kernel
theorem cls_RF_differ : mRF_differ.1.cls = "RiddleMillModel" := rfl
theorem cls_RF_prove : mRF_prove.1.cls = "RiddleMillModel" := rfl
theorem fp_RF_prove_94 : gFp mRF_prove.1 94 = some (6, 1) := by decide +kernel
theorem tn_RF_196 : gTn "RiddleMillModel" 196 = some 126 := by decide +kernel
theorem ms_126 : gMs 126 = false := by decide +kernel
theorem fp_RF_prove_199 : gFp mRF_prove.1 199 = some (6, 12) := by decide +kernel
theorem cls_RF_work : mRF_work.1.cls = "RiddleMillModel" := rfl
theorem fp_RF_work_180 : gFp mRF_work.1 180 = some (6, 11) := by decide +kernel
theorem tn_RF_189 : gTn "RiddleMillModel" 189 = some 127 := by decide +kernel
theorem ms_127 : gMs 127 = false := by decide +kernel
theorem tn_RF_193 : gTn "RiddleMillModel" 193 = some 128 := by decide +kernel
theorem ms_128 : gMs 128 = false := by decide +kernel
theorem cls_RF_isStuck : mRF_isStuck.1.cls = "RiddleMillModel" := rfl
theorem cls_RF_stepped : mRF_stepped.1.cls = "RiddleMillModel" := rfl
theorem tn_RF_183 : gTn "RiddleMillModel" 183 = some 129 := by decide +kernel
theorem ms_129 : gMs 129 = false := by decide +kernel
theorem tn_RF_186 : gTn "RiddleMillModel" 186 = some 130 := by decide +kernel
theorem ms_130 : gMs 130 = false := by decide +kernel
theorem cls_RF_isOf : mRF_isOf.1.cls = "RiddleMillModel" := rfl
theorem cls_RF_stepBy : mRF_stepBy.1.cls = "RiddleMillModel" := rfl
theorem tn_RF_177 : gTn "RiddleMillModel" 177 = some 131 := by decide +kernel
theorem ms_131 : gMs 131 = false := by decide +kernel
theorem fp_RF_stepBy_180 : gFp mRF_stepBy.1 180 = some (6, 11) := by decide +kernel
theorem cls_RF_takes : mRF_takes.1.cls = "RiddleMillModel" := rfl
theorem tn_RF_160 : gTn "RiddleMillModel" 160 = some 132 := by decide +kernel
theorem ms_132 : gMs 132 = false := by decide +kernel
theorem tn_RF_164 : gTn "RiddleMillModel" 164 = some 133 := by decide +kernel
theorem ms_133 : gMs 133 = false := by decide +kernel
theorem tn_RF_167 : gTn "RiddleMillModel" 167 = some 134 := by decide +kernel
theorem ms_134 : gMs 134 = false := by decide +kernel
theorem tn_RF_170 : gTn "RiddleMillModel" 170 = some 136 := by decide +kernel
theorem ms_136 : gMs 136 = false := by decide +kernel
theorem tn_RF_173 : gTn "RiddleMillModel" 173 = some 137 := by decide +kernel
theorem ms_137 : gMs 137 = false := by decide +kernel
theorem cls_RF_byOther : mRF_byOther.1.cls = "RiddleMillModel" := rfl
theorem cls_RF_byOnly : mRF_byOnly.1.cls = "RiddleMillModel" := rfl
theorem cls_RF_byPair : mRF_byPair.1.cls = "RiddleMillModel" := rfl
theorem tn_RF_150 : gTn "RiddleMillModel" 150 = some 135 := by decide +kernel
theorem ms_135 : gMs 135 = true := by decide +kernel
theorem cls_RF_size : mRF_size.1.cls = "RiddleMillModel" := rfl
theorem cls_RF_isIn : mRF_isIn.1.cls = "RiddleMillModel" := rfl
theorem cls_RF_canBe : mRF_canBe.1.cls = "RiddleMillModel" := rfl
theorem tn_RF_153 : gTn "RiddleMillModel" 153 = some 138 := by decide +kernel
theorem ms_138 : gMs 138 = false := by decide +kernel
theorem tn_RF_157 : gTn "RiddleMillModel" 157 = some 139 := by decide +kernel
theorem ms_139 : gMs 139 = true := by decide +kernel
theorem cls_RF_mayBe : mRF_mayBe.1.cls = "RiddleMillModel" := rfl
theorem cls_RF_clash : mRF_clash.1.cls = "RiddleMillModel" := rfl
theorem cls_RF_step : mRF_step.1.cls = "RiddleMillModel" := rfl
theorem fp_RF_step_94 : gFp mRF_step.1 94 = some (6, 1) := by decide +kernel
theorem cls_RF_may : mRF_may.1.cls = "RiddleMillModel" := rfl
theorem fp_RF_may_94 : gFp mRF_may.1 94 = some (6, 1) := by decide +kernel
theorem cls_RF_rating : mRF_rating.1.cls = "RiddleMillModel" := rfl
theorem fp_RF_rating_94 : gFp mRF_rating.1 94 = some (6, 1) := by decide +kernel
theorem tn_RF_202 : gTn "RiddleMillModel" 202 = some 143 := by decide +kernel
theorem ms_143 : gMs 143 = false := by decide +kernel
theorem cls_RF_rated : mRF_rated.1.cls = "RiddleMillModel" := rfl
theorem cls_RF_make : mRF_make.1.cls = "RiddleMillModel" := rfl
theorem ki_RF_233 : gKi "RiddleMillModel" 233 = some 2147483646 := by decide +kernel
theorem fp_RF_make_94 : gFp mRF_make.1 94 = some (6, 1) := by decide +kernel
theorem fp_RF_make_234 : gFp mRF_make.1 234 = some (6, 7) := by decide +kernel
theorem fp_RF_make_207 : gFp mRF_make.1 207 = some (6, 26) := by decide +kernel
theorem tn_RF_237 : gTn "RiddleMillModel" 237 = some 145 := by decide +kernel
theorem ms_145 : gMs 145 = false := by decide +kernel
theorem fp_RF_make_101 : gFp mRF_make.1 101 = some (6, 6) := by decide +kernel
theorem cls_RF_once : mRF_once.1.cls = "RiddleMillModel" := rfl
theorem tn_RF_224 : gTn "RiddleMillModel" 224 = some 146 := by decide +kernel
theorem ms_146 : gMs 146 = false := by decide +kernel
theorem tn_RF_227 : gTn "RiddleMillModel" 227 = some 147 := by decide +kernel
theorem ms_147 : gMs 147 = false := by decide +kernel
theorem tn_RF_230 : gTn "RiddleMillModel" 230 = some 148 := by decide +kernel
theorem ms_148 : gMs 148 = false := by decide +kernel
theorem fp_RF_once_101 : gFp mRF_once.1 101 = some (6, 6) := by decide +kernel
theorem cls_RF_draw : mRF_draw.1.cls = "RiddleMillModel" := rfl
theorem kl_RF_205 : gKl "RiddleMillModel" 205 = some 48271 := by decide +kernel
theorem kl_RF_211 : gKl "RiddleMillModel" 211 = some 2147483647 := by decide +kernel
theorem fp_RF_draw_207 : gFp mRF_draw.1 207 = some (6, 26) := by decide +kernel
theorem cls_RF_swapPlaces : mRF_swapPlaces.1.cls = "RiddleMillModel" := rfl
theorem cls_RF_gather : mRF_gather.1.cls = "RiddleMillModel" := rfl
theorem fp_RF_gather_213 : gFp mRF_gather.1 213 = some (6, 24) := by decide +kernel
theorem tn_RF_220 : gTn "RiddleMillModel" 220 = some 149 := by decide +kernel
theorem ms_149 : gMs 149 = false := by decide +kernel
theorem tn_RF_216 : gTn "RiddleMillModel" 216 = some 150 := by decide +kernel
theorem ms_150 : gMs 150 = false := by decide +kernel
theorem cls_RF_gatherTwo : mRF_gatherTwo.1.cls = "RiddleMillModel" := rfl
theorem cls_RF_possibly : mRF_possibly.1.cls = "RiddleMillModel" := rfl
theorem fp_RF_possibly_213 : gFp mRF_possibly.1 213 = some (6, 24) := by decide +kernel
theorem cls_RF_name : mRF_name.1.cls = "RiddleMillModel" := rfl
theorem fp_RF_name_94 : gFp mRF_name.1 94 = some (6, 1) := by decide +kernel
theorem tn_RF_242 : gTn "RiddleMillModel" 242 = some 152 := by decide +kernel
theorem ms_152 : gMs 152 = true := by decide +kernel
theorem kl_RF_240 : gKl "RiddleMillModel" 240 = some 255 := by decide +kernel
theorem kl_RF_246 : gKl "RiddleMillModel" 246 = some 97 := by decide +kernel
theorem kl_RF_248 : gKl "RiddleMillModel" 248 = some 122 := by decide +kernel
theorem cls_RF_letters : mRF_letters.1.cls = "RiddleMillModel" := rfl
theorem cls_RF_print : mRF_print.1.cls = "RiddleMillModel" := rfl
theorem fp_RF_print_94 : gFp mRF_print.1 94 = some (6, 1) := by decide +kernel
theorem tn_RF_257 : gTn "RiddleMillModel" 257 = some 154 := by decide +kernel
theorem ms_154 : gMs 154 = false := by decide +kernel
theorem fp_RF_print_250 : gFp mRF_print.1 250 = some (6, 20) := by decide +kernel
theorem tn_RF_253 : gTn "RiddleMillModel" 253 = some 155 := by decide +kernel
theorem ms_155 : gMs 155 = false := by decide +kernel
theorem tn_RF_260 : gTn "RiddleMillModel" 260 = some 156 := by decide +kernel
theorem ms_156 : gMs 156 = false := by decide +kernel
theorem cls_RF_isNamed : mRF_isNamed.1.cls = "RiddleMillModel" := rfl
theorem cls_RF_show : mRF_show.1.cls = "RiddleMillModel" := rfl
theorem fp_RF_show_250 : gFp mRF_show.1 250 = some (6, 20) := by decide +kernel
theorem cls_RF_showThing : mRF_showThing.1.cls = "RiddleMillModel" := rfl
theorem cls_RF_shown : mRF_shown.1.cls = "RiddleMillModel" := rfl
theorem fp_RF_shown_94 : gFp mRF_shown.1 94 = some (6, 1) := by decide +kernel
theorem cls_RF_type : mRF_type.1.cls = "RiddleMillModel" := rfl
theorem fp_RF_type_94 : gFp mRF_type.1 94 = some (6, 1) := by decide +kernel
theorem kl_RF_263 : gKl "RiddleMillModel" 263 = some 32 := by decide +kernel
theorem kl_RF_265 : gKl "RiddleMillModel" 265 = some 126 := by decide +kernel
theorem fp_RF_type_267 : gFp mRF_type.1 267 = some (6, 21) := by decide +kernel
theorem cls_RF_read : mRF_read.1.cls = "RiddleMillModel" := rfl
theorem fp_RF_read_78 : gFp mRF_read.1 78 = some (6, 22) := by decide +kernel
theorem fp_RF_read_270 : gFp mRF_read.1 270 = some (6, 23) := by decide +kernel
theorem fp_RF_read_314 : gFp mRF_read.1 314 = some (6, 29) := by decide +kernel
theorem fp_RF_read_317 : gFp mRF_read.1 317 = some (6, 30) := by decide +kernel
theorem fp_RF_read_308 : gFp mRF_read.1 308 = some (6, 31) := by decide +kernel
theorem fp_RF_read_320 : gFp mRF_read.1 320 = some (6, 32) := by decide +kernel
theorem kl_RF_288 : gKl "RiddleMillModel" 288 = some 48 := by decide +kernel
theorem tn_RF_295 : gTn "RiddleMillModel" 295 = some 160 := by decide +kernel
theorem ms_160 : gMs 160 = false := by decide +kernel
theorem kl_RF_323 : gKl "RiddleMillModel" 323 = some 49 := by decide +kernel
theorem tn_RF_305 : gTn "RiddleMillModel" 305 = some 163 := by decide +kernel
theorem ms_163 : gMs 163 = false := by decide +kernel
theorem tn_RF_302 : gTn "RiddleMillModel" 302 = some 167 := by decide +kernel
theorem ms_167 : gMs 167 = false := by decide +kernel
theorem tn_RF_311 : gTn "RiddleMillModel" 311 = some 168 := by decide +kernel
theorem ms_168 : gMs 168 = false := by decide +kernel
theorem fp_RF_read_325 : gFp mRF_read.1 325 = some (6, 28) := by decide +kernel
theorem tn_RF_328 : gTn "RiddleMillModel" 328 = some 169 := by decide +kernel
theorem ms_169 : gMs 169 = false := by decide +kernel
theorem tn_RF_275 : gTn "RiddleMillModel" 275 = some 161 := by decide +kernel
theorem ms_161 : gMs 161 = false := by decide +kernel
theorem tn_RF_282 : gTn "RiddleMillModel" 282 = some 165 := by decide +kernel
theorem ms_165 : gMs 165 = false := by decide +kernel
theorem fp_RF_read_267 : gFp mRF_read.1 267 = some (6, 21) := by decide +kernel
theorem fp_RF_read_94 : gFp mRF_read.1 94 = some (6, 1) := by decide +kernel
theorem tn_RF_331 : gTn "RiddleMillModel" 331 = some 105 := by decide +kernel
theorem ms_105 : gMs 105 = false := by decide +kernel
theorem cls_RF_is : mRF_is.1.cls = "RiddleMillModel" := rfl
theorem tn_RF_278 : gTn "RiddleMillModel" 278 = some 162 := by decide +kernel
theorem ms_162 : gMs 162 = false := by decide +kernel
theorem cls_RF_isAtEnd : mRF_isAtEnd.1.cls = "RiddleMillModel" := rfl
theorem cls_RF_word : mRF_word.1.cls = "RiddleMillModel" := rfl
theorem kl_RF_273 : gKl "RiddleMillModel" 273 = some (-1) := by decide +kernel
theorem cls_RF_digit : mRF_digit.1.cls = "RiddleMillModel" := rfl
theorem tn_RF_292 : gTn "RiddleMillModel" 292 = some 164 := by decide +kernel
theorem ms_164 : gMs 164 = false := by decide +kernel
theorem tn_RF_285 : gTn "RiddleMillModel" 285 = some 166 := by decide +kernel
theorem ms_166 : gMs 166 = false := by decide +kernel
theorem cls_RF_isDigit : mRF_isDigit.1.cls = "RiddleMillModel" := rfl
theorem kl_RF_290 : gKl "RiddleMillModel" 290 = some 57 := by decide +kernel
theorem cls_RF_bad : mRF_bad.1.cls = "RiddleMillModel" := rfl
theorem fp_RF_bad_78 : gFp mRF_bad.1 78 = some (6, 22) := by decide +kernel
theorem cls_RF_next : mRF_next.1.cls = "RiddleMillModel" := rfl
theorem fp_RF_next_270 : gFp mRF_next.1 270 = some (6, 23) := by decide +kernel
theorem cls_RF_must : mRF_must.1.cls = "RiddleMillModel" := rfl
theorem cls_RF_thing : mRF_thing.1.cls = "RiddleMillModel" := rfl
theorem cls_RF_rest : mRF_rest.1.cls = "RiddleMillModel" := rfl
theorem fp_RF_rest_299 : gFp mRF_rest.1 299 = some (6, 27) := by decide +kernel
theorem fp_RF_rest_308 : gFp mRF_rest.1 308 = some (6, 31) := by decide +kernel
theorem fp_RF_rest_314 : gFp mRF_rest.1 314 = some (6, 29) := by decide +kernel
theorem fp_RF_rest_317 : gFp mRF_rest.1 317 = some (6, 30) := by decide +kernel
theorem cls_RF_fault : mRF_fault.1.cls = "RiddleMillModel" := rfl
theorem fp_RF_fault_94 : gFp mRF_fault.1 94 = some (6, 1) := by decide +kernel
theorem cls_RF_about : mRF_about.1.cls = "RiddleMillModel" := rfl
theorem fp_RF_about_94 : gFp mRF_about.1 94 = some (6, 1) := by decide +kernel
