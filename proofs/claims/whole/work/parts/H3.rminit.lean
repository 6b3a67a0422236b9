-- the constructor of the mill, walked
set_option maxRecDepth 20000 in
theorem wk_RM_25 : Cond.classLink "RiddleMill" 25 "RiddleMill$ClueList" ∈ gWS := gin 32 rfl rfl
set_option maxRecDepth 20000 in
theorem wk_RM_32 : Cond.classLink "RiddleMill" 32 "RiddleMill$Worlds" ∈ gWS := gin 53 rfl rfl
set_option maxRecDepth 20000 in
theorem wk_RM_41 : Cond.classLink "RiddleMill" 41 "RiddleMill$Proof" ∈ gWS := gin 105 rfl rfl
set_option maxRecDepth 20000 in
theorem wk_RM_51 : Cond.classLink "RiddleMill" 51 "RiddleMill$Maker" ∈ gWS := gin 150 rfl rfl
set_option maxRecDepth 20000 in
theorem wk_RM_58 : Cond.classLink "RiddleMill" 58 "RiddleMill$Speech" ∈ gWS := gin 181 rfl rfl
set_option maxRecDepth 20000 in
theorem wx_WO : Cond.instantiable "RiddleMill$Worlds" 15 ∈ gWS := gin 54 rfl rfl
theorem df_WO : ∀ j, j < 15 → defaultValue (gTY 4 j) = vp_V [.int 0, .int 0, .null, .null, .null, .null, .null, .null, .int 0, .int 0, .int 0, .int 0, .int 0, .int 0, .int 0] j := fun j hj => by
  match j, hj with
  | 0, _ => rfl
  | 1, _ => rfl
  | 2, _ => rfl
  | 3, _ => rfl
  | 4, _ => rfl
  | 5, _ => rfl
  | 6, _ => rfl
  | 7, _ => rfl
  | 8, _ => rfl
  | 9, _ => rfl
  | 10, _ => rfl
  | 11, _ => rfl
  | 12, _ => rfl
  | 13, _ => rfl
  | 14, _ => rfl
set_option maxRecDepth 20000 in
theorem wx_PR : Cond.instantiable "RiddleMill$Proof" 10 ∈ gWS := gin 106 rfl rfl
theorem df_PR : ∀ j, j < 10 → defaultValue (gTY 2 j) = vp_V [.int 0, .int 0, .null, .null, .null, .null, .null, .int 0, .int 0, .int 0] j := fun j hj => by
  match j, hj with
  | 0, _ => rfl
  | 1, _ => rfl
  | 2, _ => rfl
  | 3, _ => rfl
  | 4, _ => rfl
  | 5, _ => rfl
  | 6, _ => rfl
  | 7, _ => rfl
  | 8, _ => rfl
  | 9, _ => rfl
set_option maxRecDepth 20000 in
theorem wx_MA : Cond.instantiable "RiddleMill$Maker" 7 ∈ gWS := gin 151 rfl rfl
theorem df_MA : ∀ j, j < 7 → defaultValue (gTY 1 j) = vp_V [.int 0, .int 0, .null, .null, .int 0, .long 0, .null] j := fun j hj => by
  match j, hj with
  | 0, _ => rfl
  | 1, _ => rfl
  | 2, _ => rfl
  | 3, _ => rfl
  | 4, _ => rfl
  | 5, _ => rfl
  | 6, _ => rfl
set_option maxRecDepth 20000 in
theorem wx_SP : Cond.instantiable "RiddleMill$Speech" 11 ∈ gWS := gin 182 rfl rfl
theorem df_SP : ∀ j, j < 11 → defaultValue (gTY 3 j) = vp_V [.null, .null, .int 0, .null, .int 0, .int 0, .int 0, .null, .int 0, .int 0, .int 0] j := fun j hj => by
  match j, hj with
  | 0, _ => rfl
  | 1, _ => rfl
  | 2, _ => rfl
  | 3, _ => rfl
  | 4, _ => rfl
  | 5, _ => rfl
  | 6, _ => rfl
  | 7, _ => rfl
  | 8, _ => rfl
  | 9, _ => rfl
  | 10, _ => rfl
theorem wz_RM_27 : Cond.methodLinkNest "RiddleMill" 27 mCL_init.1 "RiddleMill" ∈ gNW := List.mem_of_getElem? (i := 0) rfl
theorem wz_RM_60 : Cond.methodLinkNest "RiddleMill" 60 mSP_init.1 "RiddleMill" ∈ gNW := List.mem_of_getElem? (i := 2) rfl
def rm9 : RMS := ((0, fun _ => 0), ((fun _ => 0, fun _ => 0, 0, 0), 0, fun _ => 0, ps9), ps9, ss9)
set_option maxRecDepth 100000 in
set_option maxHeartbeats 4000000 in
theorem g_RM_init (l : Launch) (g : gG) (cL cI : ClassId) (hcL : (cL, FieldType.long) ∈ g.2.1) (hcI : (cI, FieldType.int) ∈ g.2.1) (N K o : Nat) (x y : Value) (h k0 : gH) (hk : ∀ q, q ≠ o → k0 q = h q) (O0 : k0 o = some (.inr (5, [.int (nI N), .int (nI K), .null, .null, .null, .null, .null, .null]))) : gw l g mRM_init (grN 4 31 1306) h (gZm g h 31 1306 (fun r h' => r = none ∧ ∃ M : Nat → Nat, M 0 = o ∧ newA g h M 32 h' ∧ isRM cL cI N K M rm9 h')) 0 0 42 [some (.ref o), some x, some y] [] k0 := by
  refine gw_ev (T := gT0) 60 [] gRt_f (gTO_0 _ _ _ ⟨Nat.le_of_ble_eq_true rfl, Nat.le_of_ble_eq_true rfl⟩) ?_
  simp only [vc_i, vc_l, vc_r, vc_n, Nat.succ_ne_self, gSd_s, gEd_s, gEd_0, gEd_B, gB_t, gB_f, gGo_c, gGo_n, gAll_n, gAll_c, gwK_s, gCT, gCF, gSet, gSet2, gKill, gTw, gTs, gLs, List.map_cons, List.map_nil, fv0, fv1, fv2, fv3, List.getElem?_cons_zero, List.getElem?_cons_succ, List.set_cons_zero, List.set_cons_succ, List.not_mem_nil, List.mem_cons, Option.toList_some, Option.toList_none, List.cons_append, List.nil_append, if_false, if_true, true_and, and_true, forall_const, true_implies, false_implies, or_false, false_or, not_true_eq_false, not_false_eq_true, and_false, false_and, implies_true, Nat.reduceAdd, Nat.reduceEqDiff, Nat.reduceLT, ↓reduceIte, cls_RM_init, st_aload_n, st_invokespecial, st_iconst, st_iload_n, st_invokestatic, st_putfield, st_getfield, st_if_icmp, st_goto, st_new, st_dup, st_return_, (show mRM_init.2.2.1 = 3 from rfl), tn_RM_7, (show gT0 2 = none from rfl), tn_RM_13, (show gT0 3 = none from rfl), fp_RM_init_16, gF_RM_16, fp_RM_init_22, fp_RM_init_28, gF_RM_22, fp_RM_init_37, fp_RM_init_44, fp_RM_init_48, fp_RM_init_54, fp_RM_init_61, dRM_init_0, dRM_init_1, dRM_init_4, dRM_init_5, ic_3, dRM_init_6, ic_5, dRM_init_7, dRM_init_8, dRM_init_11, dRM_init_14, dRM_init_17, dRM_init_18, ic_1, dRM_init_19, dRM_init_20, dRM_init_23, dRM_init_24, tg_24_7, tz_24_7, dRM_init_27, ic_2, dRM_init_28, tg_28_4, tz_28_4, dRM_init_31, dRM_init_32, dRM_init_33, dRM_init_36, dRM_init_39, dRM_init_42, dRM_init_43, dRM_init_46, dRM_init_47, dRM_init_50, dRM_init_53, dRM_init_54, dRM_init_57, dRM_init_58, dRM_init_59, dRM_init_62, dRM_init_63, dRM_init_66, dRM_init_69, dRM_init_72, dRM_init_73, dRM_init_76, dRM_init_77, dRM_init_78, dRM_init_81, dRM_init_82, dRM_init_85, dRM_init_88, dRM_init_91, dRM_init_92, dRM_init_95, dRM_init_96, dRM_init_97, dRM_init_100, dRM_init_101, dRM_init_104, dRM_init_107, dRM_init_110, dRM_init_111, dRM_init_114, dRM_init_115, dRM_init_116, dRM_init_119, dRM_init_120, dRM_init_123, dRM_init_126, dRM_init_129, dRM_init_130, dRM_init_133, dRM_init_134, dRM_init_137, dRM_init_140]
  refine gw_new (fs := [.null, .int 0]) dRM_init_43 (show gCL[0]? = some ("RiddleMill$ClueList", TCL, 2) from rfl) wk_RM_25 wx_CL wn_CL df_CL (Nat.le_of_ble_eq_true rfl) (Nat.le_of_ble_eq_true rfl) fun q0 hq0 hz0 => ?_
  have n0 : o ≠ q0 := fun e => by rw [← e, O0] at hq0; cases hq0
  refine gw_ev (T := gT0) 60 [] gRt_f (gTO_0 _ _ _ ⟨Nat.le_of_ble_eq_true rfl, Nat.le_of_ble_eq_true rfl⟩) ?_
  simp only [vc_i, vc_l, vc_r, vc_n, Nat.succ_ne_self, gSd_s, gEd_s, gEd_0, gEd_B, gB_t, gB_f, gGo_c, gGo_n, gAll_n, gAll_c, gwK_s, gCT, gCF, gSet, gSet2, gKill, gTw, gTs, gLs, List.map_cons, List.map_nil, fv0, fv1, fv2, fv3, List.getElem?_cons_zero, List.getElem?_cons_succ, List.set_cons_zero, List.set_cons_succ, List.not_mem_nil, List.mem_cons, Option.toList_some, Option.toList_none, List.cons_append, List.nil_append, if_false, if_true, true_and, and_true, forall_const, true_implies, false_implies, or_false, false_or, not_true_eq_false, not_false_eq_true, and_false, false_and, implies_true, Nat.reduceAdd, Nat.reduceEqDiff, Nat.reduceLT, ↓reduceIte, cls_RM_init, st_aload_n, st_invokespecial, st_iconst, st_iload_n, st_invokestatic, st_putfield, st_getfield, st_if_icmp, st_goto, st_new, st_dup, st_return_, (show mRM_init.2.2.1 = 3 from rfl), tn_RM_7, (show gT0 2 = none from rfl), tn_RM_13, (show gT0 3 = none from rfl), fp_RM_init_16, gF_RM_16, fp_RM_init_22, fp_RM_init_28, gF_RM_22, fp_RM_init_37, fp_RM_init_44, fp_RM_init_48, fp_RM_init_54, fp_RM_init_61, dRM_init_0, dRM_init_1, dRM_init_4, dRM_init_5, ic_3, dRM_init_6, ic_5, dRM_init_7, dRM_init_8, dRM_init_11, dRM_init_14, dRM_init_17, dRM_init_18, ic_1, dRM_init_19, dRM_init_20, dRM_init_23, dRM_init_24, tg_24_7, tz_24_7, dRM_init_27, ic_2, dRM_init_28, tg_28_4, tz_28_4, dRM_init_31, dRM_init_32, dRM_init_33, dRM_init_36, dRM_init_39, dRM_init_42, dRM_init_43, dRM_init_46, dRM_init_47, dRM_init_50, dRM_init_53, dRM_init_54, dRM_init_57, dRM_init_58, dRM_init_59, dRM_init_62, dRM_init_63, dRM_init_66, dRM_init_69, dRM_init_72, dRM_init_73, dRM_init_76, dRM_init_77, dRM_init_78, dRM_init_81, dRM_init_82, dRM_init_85, dRM_init_88, dRM_init_91, dRM_init_92, dRM_init_95, dRM_init_96, dRM_init_97, dRM_init_100, dRM_init_101, dRM_init_104, dRM_init_107, dRM_init_110, dRM_init_111, dRM_init_114, dRM_init_115, dRM_init_116, dRM_init_119, dRM_init_120, dRM_init_123, dRM_init_126, dRM_init_129, dRM_init_130, dRM_init_133, dRM_init_134, dRM_init_137, dRM_init_140, gup_n _ _ n0, O0]
  refine gw_callIN (as := []) (b := q0) (r := [.ref q0, .ref o]) (rm := grN 1 1 30) dRM_init_47 (c_CL_initA l g cI hcI q0 (gup k0 q0 (.inr (0, [.null, .int 0]))) (gup_s _ _ _)) wc_CL_init rfl rfl wz_RM_27 wi_CL_init wn_CL (by show _ ∧ _ ∧ _ = some 0; decide +kernel) ⟨by decide, Nat.le_of_ble_eq_true rfl⟩ (Nat.le_of_ble_eq_true rfl) ⟨Nat.le_of_ble_eq_true rfl, Nat.le_of_ble_eq_true rfl⟩ ?_
  intro vv0 j0 hvv0
  obtain ⟨rfl, A0, rfl, hN0, hX0⟩ := hvv0
  obtain ⟨P0, B0⟩ := blk_of (x := .inr (5, [.int (nI N), .int (nI K), .ref (A0 0), .null, .null, .null, .null, .null])) (m := 2) (by decide) O0 hq0 hz0 rfl hN0
  refine gw_ev (T := gT0) 60 [53] gRt_f (gTO_0 _ _ _ ⟨Nat.le_of_ble_eq_true rfl, Nat.le_of_ble_eq_true rfl⟩) ?_
  simp only [vc_i, vc_l, vc_r, vc_n, Nat.succ_ne_self, gSd_s, gEd_s, gEd_0, gEd_B, gB_t, gB_f, gGo_c, gGo_n, gAll_n, gAll_c, gwK_s, gCT, gCF, gSet, gSet2, gKill, gTw, gTs, gLs, List.map_cons, List.map_nil, fv0, fv1, fv2, fv3, List.getElem?_cons_zero, List.getElem?_cons_succ, List.set_cons_zero, List.set_cons_succ, List.not_mem_nil, List.mem_cons, Option.toList_some, Option.toList_none, List.cons_append, List.nil_append, if_false, if_true, true_and, and_true, forall_const, true_implies, false_implies, or_false, false_or, not_true_eq_false, not_false_eq_true, and_false, false_and, implies_true, Nat.reduceAdd, Nat.reduceEqDiff, Nat.reduceLT, ↓reduceIte, cls_RM_init, st_aload_n, st_invokespecial, st_iconst, st_iload_n, st_invokestatic, st_putfield, st_getfield, st_if_icmp, st_goto, st_new, st_dup, st_return_, (show mRM_init.2.2.1 = 3 from rfl), tn_RM_7, (show gT0 2 = none from rfl), tn_RM_13, (show gT0 3 = none from rfl), fp_RM_init_16, gF_RM_16, fp_RM_init_22, fp_RM_init_28, gF_RM_22, fp_RM_init_37, fp_RM_init_44, fp_RM_init_48, fp_RM_init_54, fp_RM_init_61, dRM_init_0, dRM_init_1, dRM_init_4, dRM_init_5, ic_3, dRM_init_6, ic_5, dRM_init_7, dRM_init_8, dRM_init_11, dRM_init_14, dRM_init_17, dRM_init_18, ic_1, dRM_init_19, dRM_init_20, dRM_init_23, dRM_init_24, tg_24_7, tz_24_7, dRM_init_27, ic_2, dRM_init_28, tg_28_4, tz_28_4, dRM_init_31, dRM_init_32, dRM_init_33, dRM_init_36, dRM_init_39, dRM_init_42, dRM_init_43, dRM_init_46, dRM_init_47, dRM_init_50, dRM_init_53, dRM_init_54, dRM_init_57, dRM_init_58, dRM_init_59, dRM_init_62, dRM_init_63, dRM_init_66, dRM_init_69, dRM_init_72, dRM_init_73, dRM_init_76, dRM_init_77, dRM_init_78, dRM_init_81, dRM_init_82, dRM_init_85, dRM_init_88, dRM_init_91, dRM_init_92, dRM_init_95, dRM_init_96, dRM_init_97, dRM_init_100, dRM_init_101, dRM_init_104, dRM_init_107, dRM_init_110, dRM_init_111, dRM_init_114, dRM_init_115, dRM_init_116, dRM_init_119, dRM_init_120, dRM_init_123, dRM_init_126, dRM_init_129, dRM_init_130, dRM_init_133, dRM_init_134, dRM_init_137, dRM_init_140, P0]
  refine ⟨⟨by show 2 < 8; decide, rfl, rfl⟩, ?_⟩
  obtain ⟨k1, e1⟩ : ∃ k, k = gup j0 o (.inr (5, [.int (nI N), .int (nI K), .ref (A0 0), .null, .null, .null, .null, .null])) := ⟨_, rfl⟩
  rw [← e1] at B0 ⊢
  have O1 : k1 o = some (.inr (5, [.int (nI N), .int (nI K), .ref (A0 0), .null, .null, .null, .null, .null])) := by rw [e1]; exact gup_s _ _ _
  have f0 : ∀ z, z < 2 → k1 (A0 z) = j0 (A0 z) := fun z hz => by rw [e1]; exact gup_n _ _ (B0.2.1 z hz).2.2
  have Y0 : isCL cI (A0 0) (A0 1) 0 (fun _ => 0) k1 := isCL_fr (f0 0 (by decide)) (f0 1 (by decide)) hX0
  have V0 := live_CL Y0
  refine gw_ev (T := gT0) 60 [] gRt_f (gTO_0 _ _ _ ⟨Nat.le_of_ble_eq_true rfl, Nat.le_of_ble_eq_true rfl⟩) ?_
  simp only [vc_i, vc_l, vc_r, vc_n, Nat.succ_ne_self, gSd_s, gEd_s, gEd_0, gEd_B, gB_t, gB_f, gGo_c, gGo_n, gAll_n, gAll_c, gwK_s, gCT, gCF, gSet, gSet2, gKill, gTw, gTs, gLs, List.map_cons, List.map_nil, fv0, fv1, fv2, fv3, List.getElem?_cons_zero, List.getElem?_cons_succ, List.set_cons_zero, List.set_cons_succ, List.not_mem_nil, List.mem_cons, Option.toList_some, Option.toList_none, List.cons_append, List.nil_append, if_false, if_true, true_and, and_true, forall_const, true_implies, false_implies, or_false, false_or, not_true_eq_false, not_false_eq_true, and_false, false_and, implies_true, Nat.reduceAdd, Nat.reduceEqDiff, Nat.reduceLT, ↓reduceIte, cls_RM_init, st_aload_n, st_invokespecial, st_iconst, st_iload_n, st_invokestatic, st_putfield, st_getfield, st_if_icmp, st_goto, st_new, st_dup, st_return_, (show mRM_init.2.2.1 = 3 from rfl), tn_RM_7, (show gT0 2 = none from rfl), tn_RM_13, (show gT0 3 = none from rfl), fp_RM_init_16, gF_RM_16, fp_RM_init_22, fp_RM_init_28, gF_RM_22, fp_RM_init_37, fp_RM_init_44, fp_RM_init_48, fp_RM_init_54, fp_RM_init_61, dRM_init_0, dRM_init_1, dRM_init_4, dRM_init_5, ic_3, dRM_init_6, ic_5, dRM_init_7, dRM_init_8, dRM_init_11, dRM_init_14, dRM_init_17, dRM_init_18, ic_1, dRM_init_19, dRM_init_20, dRM_init_23, dRM_init_24, tg_24_7, tz_24_7, dRM_init_27, ic_2, dRM_init_28, tg_28_4, tz_28_4, dRM_init_31, dRM_init_32, dRM_init_33, dRM_init_36, dRM_init_39, dRM_init_42, dRM_init_43, dRM_init_46, dRM_init_47, dRM_init_50, dRM_init_53, dRM_init_54, dRM_init_57, dRM_init_58, dRM_init_59, dRM_init_62, dRM_init_63, dRM_init_66, dRM_init_69, dRM_init_72, dRM_init_73, dRM_init_76, dRM_init_77, dRM_init_78, dRM_init_81, dRM_init_82, dRM_init_85, dRM_init_88, dRM_init_91, dRM_init_92, dRM_init_95, dRM_init_96, dRM_init_97, dRM_init_100, dRM_init_101, dRM_init_104, dRM_init_107, dRM_init_110, dRM_init_111, dRM_init_114, dRM_init_115, dRM_init_116, dRM_init_119, dRM_init_120, dRM_init_123, dRM_init_126, dRM_init_129, dRM_init_130, dRM_init_133, dRM_init_134, dRM_init_137, dRM_init_140]
  refine gw_new (fs := [.int 0, .int 0, .null, .null, .null, .null, .null, .null, .int 0, .int 0, .int 0, .int 0, .int 0, .int 0, .int 0]) dRM_init_54 (show gCL[4]? = some ("RiddleMill$Worlds", TWO, 15) from rfl) wk_RM_32 wx_WO wn_WO df_WO (Nat.le_of_ble_eq_true rfl) (Nat.le_of_ble_eq_true rfl) fun q1 hq1 hz1 => ?_
  have n1 : o ≠ q1 := fun e => by rw [← e, O1] at hq1; cases hq1
  refine gw_ev (T := gT0) 60 [] gRt_f (gTO_0 _ _ _ ⟨Nat.le_of_ble_eq_true rfl, Nat.le_of_ble_eq_true rfl⟩) ?_
  simp only [vc_i, vc_l, vc_r, vc_n, Nat.succ_ne_self, gSd_s, gEd_s, gEd_0, gEd_B, gB_t, gB_f, gGo_c, gGo_n, gAll_n, gAll_c, gwK_s, gCT, gCF, gSet, gSet2, gKill, gTw, gTs, gLs, List.map_cons, List.map_nil, fv0, fv1, fv2, fv3, List.getElem?_cons_zero, List.getElem?_cons_succ, List.set_cons_zero, List.set_cons_succ, List.not_mem_nil, List.mem_cons, Option.toList_some, Option.toList_none, List.cons_append, List.nil_append, if_false, if_true, true_and, and_true, forall_const, true_implies, false_implies, or_false, false_or, not_true_eq_false, not_false_eq_true, and_false, false_and, implies_true, Nat.reduceAdd, Nat.reduceEqDiff, Nat.reduceLT, ↓reduceIte, cls_RM_init, st_aload_n, st_invokespecial, st_iconst, st_iload_n, st_invokestatic, st_putfield, st_getfield, st_if_icmp, st_goto, st_new, st_dup, st_return_, (show mRM_init.2.2.1 = 3 from rfl), tn_RM_7, (show gT0 2 = none from rfl), tn_RM_13, (show gT0 3 = none from rfl), fp_RM_init_16, gF_RM_16, fp_RM_init_22, fp_RM_init_28, gF_RM_22, fp_RM_init_37, fp_RM_init_44, fp_RM_init_48, fp_RM_init_54, fp_RM_init_61, dRM_init_0, dRM_init_1, dRM_init_4, dRM_init_5, ic_3, dRM_init_6, ic_5, dRM_init_7, dRM_init_8, dRM_init_11, dRM_init_14, dRM_init_17, dRM_init_18, ic_1, dRM_init_19, dRM_init_20, dRM_init_23, dRM_init_24, tg_24_7, tz_24_7, dRM_init_27, ic_2, dRM_init_28, tg_28_4, tz_28_4, dRM_init_31, dRM_init_32, dRM_init_33, dRM_init_36, dRM_init_39, dRM_init_42, dRM_init_43, dRM_init_46, dRM_init_47, dRM_init_50, dRM_init_53, dRM_init_54, dRM_init_57, dRM_init_58, dRM_init_59, dRM_init_62, dRM_init_63, dRM_init_66, dRM_init_69, dRM_init_72, dRM_init_73, dRM_init_76, dRM_init_77, dRM_init_78, dRM_init_81, dRM_init_82, dRM_init_85, dRM_init_88, dRM_init_91, dRM_init_92, dRM_init_95, dRM_init_96, dRM_init_97, dRM_init_100, dRM_init_101, dRM_init_104, dRM_init_107, dRM_init_110, dRM_init_111, dRM_init_114, dRM_init_115, dRM_init_116, dRM_init_119, dRM_init_120, dRM_init_123, dRM_init_126, dRM_init_129, dRM_init_130, dRM_init_133, dRM_init_134, dRM_init_137, dRM_init_140, gup_n _ _ n1, O1]
  refine gw_callI (as := [.int (nI N), .int (nI K)]) (b := q1) (r := [.ref q1, .ref o]) (rm := grN 1 6 184) dRM_init_66 (c_WO_init l g cI hcI N K q1 (gup k1 q1 (.inr (4, [.int 0, .int 0, .null, .null, .null, .null, .null, .null, .int 0, .int 0, .int 0, .int 0, .int 0, .int 0, .int 0]))) (gup_s _ _ _)) wc_WO_init rfl rfl wl_RM_34 wi_WO_init wn_WO (by show _ ∧ _ ∧ _ = some 2; decide +kernel) ⟨by decide, Nat.le_of_ble_eq_true rfl⟩ (Nat.le_of_ble_eq_true rfl) ⟨Nat.le_of_ble_eq_true rfl, Nat.le_of_ble_eq_true rfl⟩ ?_
  intro vv1 j1 hvv1
  obtain ⟨rfl, A1, rfl, hN1, hX1⟩ := hvv1
  obtain ⟨P1, B1⟩ := blk_of (x := .inr (5, [.int (nI N), .int (nI K), .ref (A0 0), .ref (A1 0), .null, .null, .null, .null])) (m := 7) (by decide) O1 hq1 hz1 rfl hN1
  refine gw_ev (T := gT0) 60 [72] gRt_f (gTO_0 _ _ _ ⟨Nat.le_of_ble_eq_true rfl, Nat.le_of_ble_eq_true rfl⟩) ?_
  simp only [vc_i, vc_l, vc_r, vc_n, Nat.succ_ne_self, gSd_s, gEd_s, gEd_0, gEd_B, gB_t, gB_f, gGo_c, gGo_n, gAll_n, gAll_c, gwK_s, gCT, gCF, gSet, gSet2, gKill, gTw, gTs, gLs, List.map_cons, List.map_nil, fv0, fv1, fv2, fv3, List.getElem?_cons_zero, List.getElem?_cons_succ, List.set_cons_zero, List.set_cons_succ, List.not_mem_nil, List.mem_cons, Option.toList_some, Option.toList_none, List.cons_append, List.nil_append, if_false, if_true, true_and, and_true, forall_const, true_implies, false_implies, or_false, false_or, not_true_eq_false, not_false_eq_true, and_false, false_and, implies_true, Nat.reduceAdd, Nat.reduceEqDiff, Nat.reduceLT, ↓reduceIte, cls_RM_init, st_aload_n, st_invokespecial, st_iconst, st_iload_n, st_invokestatic, st_putfield, st_getfield, st_if_icmp, st_goto, st_new, st_dup, st_return_, (show mRM_init.2.2.1 = 3 from rfl), tn_RM_7, (show gT0 2 = none from rfl), tn_RM_13, (show gT0 3 = none from rfl), fp_RM_init_16, gF_RM_16, fp_RM_init_22, fp_RM_init_28, gF_RM_22, fp_RM_init_37, fp_RM_init_44, fp_RM_init_48, fp_RM_init_54, fp_RM_init_61, dRM_init_0, dRM_init_1, dRM_init_4, dRM_init_5, ic_3, dRM_init_6, ic_5, dRM_init_7, dRM_init_8, dRM_init_11, dRM_init_14, dRM_init_17, dRM_init_18, ic_1, dRM_init_19, dRM_init_20, dRM_init_23, dRM_init_24, tg_24_7, tz_24_7, dRM_init_27, ic_2, dRM_init_28, tg_28_4, tz_28_4, dRM_init_31, dRM_init_32, dRM_init_33, dRM_init_36, dRM_init_39, dRM_init_42, dRM_init_43, dRM_init_46, dRM_init_47, dRM_init_50, dRM_init_53, dRM_init_54, dRM_init_57, dRM_init_58, dRM_init_59, dRM_init_62, dRM_init_63, dRM_init_66, dRM_init_69, dRM_init_72, dRM_init_73, dRM_init_76, dRM_init_77, dRM_init_78, dRM_init_81, dRM_init_82, dRM_init_85, dRM_init_88, dRM_init_91, dRM_init_92, dRM_init_95, dRM_init_96, dRM_init_97, dRM_init_100, dRM_init_101, dRM_init_104, dRM_init_107, dRM_init_110, dRM_init_111, dRM_init_114, dRM_init_115, dRM_init_116, dRM_init_119, dRM_init_120, dRM_init_123, dRM_init_126, dRM_init_129, dRM_init_130, dRM_init_133, dRM_init_134, dRM_init_137, dRM_init_140, P1]
  refine ⟨⟨by show 3 < 8; decide, rfl, rfl⟩, ?_⟩
  obtain ⟨k2, e2⟩ : ∃ k, k = gup j1 o (.inr (5, [.int (nI N), .int (nI K), .ref (A0 0), .ref (A1 0), .null, .null, .null, .null])) := ⟨_, rfl⟩
  rw [← e2] at B1 ⊢
  have O2 : k2 o = some (.inr (5, [.int (nI N), .int (nI K), .ref (A0 0), .ref (A1 0), .null, .null, .null, .null])) := by rw [e2]; exact gup_s _ _ _
  have f1 : ∀ z, z < 7 → k2 (A1 z) = j1 (A1 z) := fun z hz => by rw [e2]; exact gup_n _ _ (B1.2.1 z hz).2.2
  have Y1 : isWO cI N K A1 k2 := isWO_fr f1 hX1
  have V1 := live_WO Y1
  refine gw_ev (T := gT0) 60 [] gRt_f (gTO_0 _ _ _ ⟨Nat.le_of_ble_eq_true rfl, Nat.le_of_ble_eq_true rfl⟩) ?_
  simp only [vc_i, vc_l, vc_r, vc_n, Nat.succ_ne_self, gSd_s, gEd_s, gEd_0, gEd_B, gB_t, gB_f, gGo_c, gGo_n, gAll_n, gAll_c, gwK_s, gCT, gCF, gSet, gSet2, gKill, gTw, gTs, gLs, List.map_cons, List.map_nil, fv0, fv1, fv2, fv3, List.getElem?_cons_zero, List.getElem?_cons_succ, List.set_cons_zero, List.set_cons_succ, List.not_mem_nil, List.mem_cons, Option.toList_some, Option.toList_none, List.cons_append, List.nil_append, if_false, if_true, true_and, and_true, forall_const, true_implies, false_implies, or_false, false_or, not_true_eq_false, not_false_eq_true, and_false, false_and, implies_true, Nat.reduceAdd, Nat.reduceEqDiff, Nat.reduceLT, ↓reduceIte, cls_RM_init, st_aload_n, st_invokespecial, st_iconst, st_iload_n, st_invokestatic, st_putfield, st_getfield, st_if_icmp, st_goto, st_new, st_dup, st_return_, (show mRM_init.2.2.1 = 3 from rfl), tn_RM_7, (show gT0 2 = none from rfl), tn_RM_13, (show gT0 3 = none from rfl), fp_RM_init_16, gF_RM_16, fp_RM_init_22, fp_RM_init_28, gF_RM_22, fp_RM_init_37, fp_RM_init_44, fp_RM_init_48, fp_RM_init_54, fp_RM_init_61, dRM_init_0, dRM_init_1, dRM_init_4, dRM_init_5, ic_3, dRM_init_6, ic_5, dRM_init_7, dRM_init_8, dRM_init_11, dRM_init_14, dRM_init_17, dRM_init_18, ic_1, dRM_init_19, dRM_init_20, dRM_init_23, dRM_init_24, tg_24_7, tz_24_7, dRM_init_27, ic_2, dRM_init_28, tg_28_4, tz_28_4, dRM_init_31, dRM_init_32, dRM_init_33, dRM_init_36, dRM_init_39, dRM_init_42, dRM_init_43, dRM_init_46, dRM_init_47, dRM_init_50, dRM_init_53, dRM_init_54, dRM_init_57, dRM_init_58, dRM_init_59, dRM_init_62, dRM_init_63, dRM_init_66, dRM_init_69, dRM_init_72, dRM_init_73, dRM_init_76, dRM_init_77, dRM_init_78, dRM_init_81, dRM_init_82, dRM_init_85, dRM_init_88, dRM_init_91, dRM_init_92, dRM_init_95, dRM_init_96, dRM_init_97, dRM_init_100, dRM_init_101, dRM_init_104, dRM_init_107, dRM_init_110, dRM_init_111, dRM_init_114, dRM_init_115, dRM_init_116, dRM_init_119, dRM_init_120, dRM_init_123, dRM_init_126, dRM_init_129, dRM_init_130, dRM_init_133, dRM_init_134, dRM_init_137, dRM_init_140]
  refine gw_new (fs := [.int 0, .int 0, .null, .null, .null, .null, .null, .int 0, .int 0, .int 0]) dRM_init_73 (show gCL[2]? = some ("RiddleMill$Proof", TPR, 10) from rfl) wk_RM_41 wx_PR wn_PR df_PR (Nat.le_of_ble_eq_true rfl) (Nat.le_of_ble_eq_true rfl) fun q2 hq2 hz2 => ?_
  have n2 : o ≠ q2 := fun e => by rw [← e, O2] at hq2; cases hq2
  refine gw_ev (T := gT0) 60 [] gRt_f (gTO_0 _ _ _ ⟨Nat.le_of_ble_eq_true rfl, Nat.le_of_ble_eq_true rfl⟩) ?_
  simp only [vc_i, vc_l, vc_r, vc_n, Nat.succ_ne_self, gSd_s, gEd_s, gEd_0, gEd_B, gB_t, gB_f, gGo_c, gGo_n, gAll_n, gAll_c, gwK_s, gCT, gCF, gSet, gSet2, gKill, gTw, gTs, gLs, List.map_cons, List.map_nil, fv0, fv1, fv2, fv3, List.getElem?_cons_zero, List.getElem?_cons_succ, List.set_cons_zero, List.set_cons_succ, List.not_mem_nil, List.mem_cons, Option.toList_some, Option.toList_none, List.cons_append, List.nil_append, if_false, if_true, true_and, and_true, forall_const, true_implies, false_implies, or_false, false_or, not_true_eq_false, not_false_eq_true, and_false, false_and, implies_true, Nat.reduceAdd, Nat.reduceEqDiff, Nat.reduceLT, ↓reduceIte, cls_RM_init, st_aload_n, st_invokespecial, st_iconst, st_iload_n, st_invokestatic, st_putfield, st_getfield, st_if_icmp, st_goto, st_new, st_dup, st_return_, (show mRM_init.2.2.1 = 3 from rfl), tn_RM_7, (show gT0 2 = none from rfl), tn_RM_13, (show gT0 3 = none from rfl), fp_RM_init_16, gF_RM_16, fp_RM_init_22, fp_RM_init_28, gF_RM_22, fp_RM_init_37, fp_RM_init_44, fp_RM_init_48, fp_RM_init_54, fp_RM_init_61, dRM_init_0, dRM_init_1, dRM_init_4, dRM_init_5, ic_3, dRM_init_6, ic_5, dRM_init_7, dRM_init_8, dRM_init_11, dRM_init_14, dRM_init_17, dRM_init_18, ic_1, dRM_init_19, dRM_init_20, dRM_init_23, dRM_init_24, tg_24_7, tz_24_7, dRM_init_27, ic_2, dRM_init_28, tg_28_4, tz_28_4, dRM_init_31, dRM_init_32, dRM_init_33, dRM_init_36, dRM_init_39, dRM_init_42, dRM_init_43, dRM_init_46, dRM_init_47, dRM_init_50, dRM_init_53, dRM_init_54, dRM_init_57, dRM_init_58, dRM_init_59, dRM_init_62, dRM_init_63, dRM_init_66, dRM_init_69, dRM_init_72, dRM_init_73, dRM_init_76, dRM_init_77, dRM_init_78, dRM_init_81, dRM_init_82, dRM_init_85, dRM_init_88, dRM_init_91, dRM_init_92, dRM_init_95, dRM_init_96, dRM_init_97, dRM_init_100, dRM_init_101, dRM_init_104, dRM_init_107, dRM_init_110, dRM_init_111, dRM_init_114, dRM_init_115, dRM_init_116, dRM_init_119, dRM_init_120, dRM_init_123, dRM_init_126, dRM_init_129, dRM_init_130, dRM_init_133, dRM_init_134, dRM_init_137, dRM_init_140, gup_n _ _ n2, O2]
  refine gw_callI (as := [.int (nI N), .int (nI K)]) (b := q2) (r := [.ref q2, .ref o]) (rm := grN 1 5 240) dRM_init_85 (c_PR_init l g cI hcI N K q2 (gup k2 q2 (.inr (2, [.int 0, .int 0, .null, .null, .null, .null, .null, .int 0, .int 0, .int 0]))) (gup_s _ _ _)) wc_PR_init rfl rfl wl_RM_43 wi_PR_init wn_PR (by show _ ∧ _ ∧ _ = some 2; decide +kernel) ⟨by decide, Nat.le_of_ble_eq_true rfl⟩ (Nat.le_of_ble_eq_true rfl) ⟨Nat.le_of_ble_eq_true rfl, Nat.le_of_ble_eq_true rfl⟩ ?_
  intro vv2 j2 hvv2
  obtain ⟨rfl, A2, rfl, hN2, hX2⟩ := hvv2
  obtain ⟨P2, B2⟩ := blk_of (x := .inr (5, [.int (nI N), .int (nI K), .ref (A0 0), .ref (A1 0), .ref (A2 0), .null, .null, .null])) (m := 6) (by decide) O2 hq2 hz2 rfl hN2
  refine gw_ev (T := gT0) 60 [91] gRt_f (gTO_0 _ _ _ ⟨Nat.le_of_ble_eq_true rfl, Nat.le_of_ble_eq_true rfl⟩) ?_
  simp only [vc_i, vc_l, vc_r, vc_n, Nat.succ_ne_self, gSd_s, gEd_s, gEd_0, gEd_B, gB_t, gB_f, gGo_c, gGo_n, gAll_n, gAll_c, gwK_s, gCT, gCF, gSet, gSet2, gKill, gTw, gTs, gLs, List.map_cons, List.map_nil, fv0, fv1, fv2, fv3, List.getElem?_cons_zero, List.getElem?_cons_succ, List.set_cons_zero, List.set_cons_succ, List.not_mem_nil, List.mem_cons, Option.toList_some, Option.toList_none, List.cons_append, List.nil_append, if_false, if_true, true_and, and_true, forall_const, true_implies, false_implies, or_false, false_or, not_true_eq_false, not_false_eq_true, and_false, false_and, implies_true, Nat.reduceAdd, Nat.reduceEqDiff, Nat.reduceLT, ↓reduceIte, cls_RM_init, st_aload_n, st_invokespecial, st_iconst, st_iload_n, st_invokestatic, st_putfield, st_getfield, st_if_icmp, st_goto, st_new, st_dup, st_return_, (show mRM_init.2.2.1 = 3 from rfl), tn_RM_7, (show gT0 2 = none from rfl), tn_RM_13, (show gT0 3 = none from rfl), fp_RM_init_16, gF_RM_16, fp_RM_init_22, fp_RM_init_28, gF_RM_22, fp_RM_init_37, fp_RM_init_44, fp_RM_init_48, fp_RM_init_54, fp_RM_init_61, dRM_init_0, dRM_init_1, dRM_init_4, dRM_init_5, ic_3, dRM_init_6, ic_5, dRM_init_7, dRM_init_8, dRM_init_11, dRM_init_14, dRM_init_17, dRM_init_18, ic_1, dRM_init_19, dRM_init_20, dRM_init_23, dRM_init_24, tg_24_7, tz_24_7, dRM_init_27, ic_2, dRM_init_28, tg_28_4, tz_28_4, dRM_init_31, dRM_init_32, dRM_init_33, dRM_init_36, dRM_init_39, dRM_init_42, dRM_init_43, dRM_init_46, dRM_init_47, dRM_init_50, dRM_init_53, dRM_init_54, dRM_init_57, dRM_init_58, dRM_init_59, dRM_init_62, dRM_init_63, dRM_init_66, dRM_init_69, dRM_init_72, dRM_init_73, dRM_init_76, dRM_init_77, dRM_init_78, dRM_init_81, dRM_init_82, dRM_init_85, dRM_init_88, dRM_init_91, dRM_init_92, dRM_init_95, dRM_init_96, dRM_init_97, dRM_init_100, dRM_init_101, dRM_init_104, dRM_init_107, dRM_init_110, dRM_init_111, dRM_init_114, dRM_init_115, dRM_init_116, dRM_init_119, dRM_init_120, dRM_init_123, dRM_init_126, dRM_init_129, dRM_init_130, dRM_init_133, dRM_init_134, dRM_init_137, dRM_init_140, P2]
  refine ⟨⟨by show 4 < 8; decide, rfl, rfl⟩, ?_⟩
  obtain ⟨k3, e3⟩ : ∃ k, k = gup j2 o (.inr (5, [.int (nI N), .int (nI K), .ref (A0 0), .ref (A1 0), .ref (A2 0), .null, .null, .null])) := ⟨_, rfl⟩
  rw [← e3] at B2 ⊢
  have O3 : k3 o = some (.inr (5, [.int (nI N), .int (nI K), .ref (A0 0), .ref (A1 0), .ref (A2 0), .null, .null, .null])) := by rw [e3]; exact gup_s _ _ _
  have f2 : ∀ z, z < 6 → k3 (A2 z) = j2 (A2 z) := fun z hz => by rw [e3]; exact gup_n _ _ (B2.2.1 z hz).2.2
  have Y2 : isPR cI N K A2 ps9 k3 := isPR_fr f2 hX2
  have V2 := live_PR Y2
  refine gw_ev (T := gT0) 60 [] gRt_f (gTO_0 _ _ _ ⟨Nat.le_of_ble_eq_true rfl, Nat.le_of_ble_eq_true rfl⟩) ?_
  simp only [vc_i, vc_l, vc_r, vc_n, Nat.succ_ne_self, gSd_s, gEd_s, gEd_0, gEd_B, gB_t, gB_f, gGo_c, gGo_n, gAll_n, gAll_c, gwK_s, gCT, gCF, gSet, gSet2, gKill, gTw, gTs, gLs, List.map_cons, List.map_nil, fv0, fv1, fv2, fv3, List.getElem?_cons_zero, List.getElem?_cons_succ, List.set_cons_zero, List.set_cons_succ, List.not_mem_nil, List.mem_cons, Option.toList_some, Option.toList_none, List.cons_append, List.nil_append, if_false, if_true, true_and, and_true, forall_const, true_implies, false_implies, or_false, false_or, not_true_eq_false, not_false_eq_true, and_false, false_and, implies_true, Nat.reduceAdd, Nat.reduceEqDiff, Nat.reduceLT, ↓reduceIte, cls_RM_init, st_aload_n, st_invokespecial, st_iconst, st_iload_n, st_invokestatic, st_putfield, st_getfield, st_if_icmp, st_goto, st_new, st_dup, st_return_, (show mRM_init.2.2.1 = 3 from rfl), tn_RM_7, (show gT0 2 = none from rfl), tn_RM_13, (show gT0 3 = none from rfl), fp_RM_init_16, gF_RM_16, fp_RM_init_22, fp_RM_init_28, gF_RM_22, fp_RM_init_37, fp_RM_init_44, fp_RM_init_48, fp_RM_init_54, fp_RM_init_61, dRM_init_0, dRM_init_1, dRM_init_4, dRM_init_5, ic_3, dRM_init_6, ic_5, dRM_init_7, dRM_init_8, dRM_init_11, dRM_init_14, dRM_init_17, dRM_init_18, ic_1, dRM_init_19, dRM_init_20, dRM_init_23, dRM_init_24, tg_24_7, tz_24_7, dRM_init_27, ic_2, dRM_init_28, tg_28_4, tz_28_4, dRM_init_31, dRM_init_32, dRM_init_33, dRM_init_36, dRM_init_39, dRM_init_42, dRM_init_43, dRM_init_46, dRM_init_47, dRM_init_50, dRM_init_53, dRM_init_54, dRM_init_57, dRM_init_58, dRM_init_59, dRM_init_62, dRM_init_63, dRM_init_66, dRM_init_69, dRM_init_72, dRM_init_73, dRM_init_76, dRM_init_77, dRM_init_78, dRM_init_81, dRM_init_82, dRM_init_85, dRM_init_88, dRM_init_91, dRM_init_92, dRM_init_95, dRM_init_96, dRM_init_97, dRM_init_100, dRM_init_101, dRM_init_104, dRM_init_107, dRM_init_110, dRM_init_111, dRM_init_114, dRM_init_115, dRM_init_116, dRM_init_119, dRM_init_120, dRM_init_123, dRM_init_126, dRM_init_129, dRM_init_130, dRM_init_133, dRM_init_134, dRM_init_137, dRM_init_140]
  refine gw_new (fs := [.int 0, .int 0, .null, .null, .null, .null, .null, .int 0, .int 0, .int 0]) dRM_init_92 (show gCL[2]? = some ("RiddleMill$Proof", TPR, 10) from rfl) wk_RM_41 wx_PR wn_PR df_PR (Nat.le_of_ble_eq_true rfl) (Nat.le_of_ble_eq_true rfl) fun q3 hq3 hz3 => ?_
  have n3 : o ≠ q3 := fun e => by rw [← e, O3] at hq3; cases hq3
  refine gw_ev (T := gT0) 60 [] gRt_f (gTO_0 _ _ _ ⟨Nat.le_of_ble_eq_true rfl, Nat.le_of_ble_eq_true rfl⟩) ?_
  simp only [vc_i, vc_l, vc_r, vc_n, Nat.succ_ne_self, gSd_s, gEd_s, gEd_0, gEd_B, gB_t, gB_f, gGo_c, gGo_n, gAll_n, gAll_c, gwK_s, gCT, gCF, gSet, gSet2, gKill, gTw, gTs, gLs, List.map_cons, List.map_nil, fv0, fv1, fv2, fv3, List.getElem?_cons_zero, List.getElem?_cons_succ, List.set_cons_zero, List.set_cons_succ, List.not_mem_nil, List.mem_cons, Option.toList_some, Option.toList_none, List.cons_append, List.nil_append, if_false, if_true, true_and, and_true, forall_const, true_implies, false_implies, or_false, false_or, not_true_eq_false, not_false_eq_true, and_false, false_and, implies_true, Nat.reduceAdd, Nat.reduceEqDiff, Nat.reduceLT, ↓reduceIte, cls_RM_init, st_aload_n, st_invokespecial, st_iconst, st_iload_n, st_invokestatic, st_putfield, st_getfield, st_if_icmp, st_goto, st_new, st_dup, st_return_, (show mRM_init.2.2.1 = 3 from rfl), tn_RM_7, (show gT0 2 = none from rfl), tn_RM_13, (show gT0 3 = none from rfl), fp_RM_init_16, gF_RM_16, fp_RM_init_22, fp_RM_init_28, gF_RM_22, fp_RM_init_37, fp_RM_init_44, fp_RM_init_48, fp_RM_init_54, fp_RM_init_61, dRM_init_0, dRM_init_1, dRM_init_4, dRM_init_5, ic_3, dRM_init_6, ic_5, dRM_init_7, dRM_init_8, dRM_init_11, dRM_init_14, dRM_init_17, dRM_init_18, ic_1, dRM_init_19, dRM_init_20, dRM_init_23, dRM_init_24, tg_24_7, tz_24_7, dRM_init_27, ic_2, dRM_init_28, tg_28_4, tz_28_4, dRM_init_31, dRM_init_32, dRM_init_33, dRM_init_36, dRM_init_39, dRM_init_42, dRM_init_43, dRM_init_46, dRM_init_47, dRM_init_50, dRM_init_53, dRM_init_54, dRM_init_57, dRM_init_58, dRM_init_59, dRM_init_62, dRM_init_63, dRM_init_66, dRM_init_69, dRM_init_72, dRM_init_73, dRM_init_76, dRM_init_77, dRM_init_78, dRM_init_81, dRM_init_82, dRM_init_85, dRM_init_88, dRM_init_91, dRM_init_92, dRM_init_95, dRM_init_96, dRM_init_97, dRM_init_100, dRM_init_101, dRM_init_104, dRM_init_107, dRM_init_110, dRM_init_111, dRM_init_114, dRM_init_115, dRM_init_116, dRM_init_119, dRM_init_120, dRM_init_123, dRM_init_126, dRM_init_129, dRM_init_130, dRM_init_133, dRM_init_134, dRM_init_137, dRM_init_140, gup_n _ _ n3, O3]
  refine gw_callI (as := [.int (nI N), .int (nI K)]) (b := q3) (r := [.ref q3, .ref o]) (rm := grN 1 5 240) dRM_init_104 (c_PR_init l g cI hcI N K q3 (gup k3 q3 (.inr (2, [.int 0, .int 0, .null, .null, .null, .null, .null, .int 0, .int 0, .int 0]))) (gup_s _ _ _)) wc_PR_init rfl rfl wl_RM_43 wi_PR_init wn_PR (by show _ ∧ _ ∧ _ = some 2; decide +kernel) ⟨by decide, Nat.le_of_ble_eq_true rfl⟩ (Nat.le_of_ble_eq_true rfl) ⟨Nat.le_of_ble_eq_true rfl, Nat.le_of_ble_eq_true rfl⟩ ?_
  intro vv3 j3 hvv3
  obtain ⟨rfl, A3, rfl, hN3, hX3⟩ := hvv3
  obtain ⟨P3, B3⟩ := blk_of (x := .inr (5, [.int (nI N), .int (nI K), .ref (A0 0), .ref (A1 0), .ref (A2 0), .ref (A3 0), .null, .null])) (m := 6) (by decide) O3 hq3 hz3 rfl hN3
  refine gw_ev (T := gT0) 60 [110] gRt_f (gTO_0 _ _ _ ⟨Nat.le_of_ble_eq_true rfl, Nat.le_of_ble_eq_true rfl⟩) ?_
  simp only [vc_i, vc_l, vc_r, vc_n, Nat.succ_ne_self, gSd_s, gEd_s, gEd_0, gEd_B, gB_t, gB_f, gGo_c, gGo_n, gAll_n, gAll_c, gwK_s, gCT, gCF, gSet, gSet2, gKill, gTw, gTs, gLs, List.map_cons, List.map_nil, fv0, fv1, fv2, fv3, List.getElem?_cons_zero, List.getElem?_cons_succ, List.set_cons_zero, List.set_cons_succ, List.not_mem_nil, List.mem_cons, Option.toList_some, Option.toList_none, List.cons_append, List.nil_append, if_false, if_true, true_and, and_true, forall_const, true_implies, false_implies, or_false, false_or, not_true_eq_false, not_false_eq_true, and_false, false_and, implies_true, Nat.reduceAdd, Nat.reduceEqDiff, Nat.reduceLT, ↓reduceIte, cls_RM_init, st_aload_n, st_invokespecial, st_iconst, st_iload_n, st_invokestatic, st_putfield, st_getfield, st_if_icmp, st_goto, st_new, st_dup, st_return_, (show mRM_init.2.2.1 = 3 from rfl), tn_RM_7, (show gT0 2 = none from rfl), tn_RM_13, (show gT0 3 = none from rfl), fp_RM_init_16, gF_RM_16, fp_RM_init_22, fp_RM_init_28, gF_RM_22, fp_RM_init_37, fp_RM_init_44, fp_RM_init_48, fp_RM_init_54, fp_RM_init_61, dRM_init_0, dRM_init_1, dRM_init_4, dRM_init_5, ic_3, dRM_init_6, ic_5, dRM_init_7, dRM_init_8, dRM_init_11, dRM_init_14, dRM_init_17, dRM_init_18, ic_1, dRM_init_19, dRM_init_20, dRM_init_23, dRM_init_24, tg_24_7, tz_24_7, dRM_init_27, ic_2, dRM_init_28, tg_28_4, tz_28_4, dRM_init_31, dRM_init_32, dRM_init_33, dRM_init_36, dRM_init_39, dRM_init_42, dRM_init_43, dRM_init_46, dRM_init_47, dRM_init_50, dRM_init_53, dRM_init_54, dRM_init_57, dRM_init_58, dRM_init_59, dRM_init_62, dRM_init_63, dRM_init_66, dRM_init_69, dRM_init_72, dRM_init_73, dRM_init_76, dRM_init_77, dRM_init_78, dRM_init_81, dRM_init_82, dRM_init_85, dRM_init_88, dRM_init_91, dRM_init_92, dRM_init_95, dRM_init_96, dRM_init_97, dRM_init_100, dRM_init_101, dRM_init_104, dRM_init_107, dRM_init_110, dRM_init_111, dRM_init_114, dRM_init_115, dRM_init_116, dRM_init_119, dRM_init_120, dRM_init_123, dRM_init_126, dRM_init_129, dRM_init_130, dRM_init_133, dRM_init_134, dRM_init_137, dRM_init_140, P3]
  refine ⟨⟨by show 5 < 8; decide, rfl, rfl⟩, ?_⟩
  obtain ⟨k4, e4⟩ : ∃ k, k = gup j3 o (.inr (5, [.int (nI N), .int (nI K), .ref (A0 0), .ref (A1 0), .ref (A2 0), .ref (A3 0), .null, .null])) := ⟨_, rfl⟩
  rw [← e4] at B3 ⊢
  have O4 : k4 o = some (.inr (5, [.int (nI N), .int (nI K), .ref (A0 0), .ref (A1 0), .ref (A2 0), .ref (A3 0), .null, .null])) := by rw [e4]; exact gup_s _ _ _
  have f3 : ∀ z, z < 6 → k4 (A3 z) = j3 (A3 z) := fun z hz => by rw [e4]; exact gup_n _ _ (B3.2.1 z hz).2.2
  have Y3 : isPR cI N K A3 ps9 k4 := isPR_fr f3 hX3
  have V3 := live_PR Y3
  refine gw_ev (T := gT0) 60 [] gRt_f (gTO_0 _ _ _ ⟨Nat.le_of_ble_eq_true rfl, Nat.le_of_ble_eq_true rfl⟩) ?_
  simp only [vc_i, vc_l, vc_r, vc_n, Nat.succ_ne_self, gSd_s, gEd_s, gEd_0, gEd_B, gB_t, gB_f, gGo_c, gGo_n, gAll_n, gAll_c, gwK_s, gCT, gCF, gSet, gSet2, gKill, gTw, gTs, gLs, List.map_cons, List.map_nil, fv0, fv1, fv2, fv3, List.getElem?_cons_zero, List.getElem?_cons_succ, List.set_cons_zero, List.set_cons_succ, List.not_mem_nil, List.mem_cons, Option.toList_some, Option.toList_none, List.cons_append, List.nil_append, if_false, if_true, true_and, and_true, forall_const, true_implies, false_implies, or_false, false_or, not_true_eq_false, not_false_eq_true, and_false, false_and, implies_true, Nat.reduceAdd, Nat.reduceEqDiff, Nat.reduceLT, ↓reduceIte, cls_RM_init, st_aload_n, st_invokespecial, st_iconst, st_iload_n, st_invokestatic, st_putfield, st_getfield, st_if_icmp, st_goto, st_new, st_dup, st_return_, (show mRM_init.2.2.1 = 3 from rfl), tn_RM_7, (show gT0 2 = none from rfl), tn_RM_13, (show gT0 3 = none from rfl), fp_RM_init_16, gF_RM_16, fp_RM_init_22, fp_RM_init_28, gF_RM_22, fp_RM_init_37, fp_RM_init_44, fp_RM_init_48, fp_RM_init_54, fp_RM_init_61, dRM_init_0, dRM_init_1, dRM_init_4, dRM_init_5, ic_3, dRM_init_6, ic_5, dRM_init_7, dRM_init_8, dRM_init_11, dRM_init_14, dRM_init_17, dRM_init_18, ic_1, dRM_init_19, dRM_init_20, dRM_init_23, dRM_init_24, tg_24_7, tz_24_7, dRM_init_27, ic_2, dRM_init_28, tg_28_4, tz_28_4, dRM_init_31, dRM_init_32, dRM_init_33, dRM_init_36, dRM_init_39, dRM_init_42, dRM_init_43, dRM_init_46, dRM_init_47, dRM_init_50, dRM_init_53, dRM_init_54, dRM_init_57, dRM_init_58, dRM_init_59, dRM_init_62, dRM_init_63, dRM_init_66, dRM_init_69, dRM_init_72, dRM_init_73, dRM_init_76, dRM_init_77, dRM_init_78, dRM_init_81, dRM_init_82, dRM_init_85, dRM_init_88, dRM_init_91, dRM_init_92, dRM_init_95, dRM_init_96, dRM_init_97, dRM_init_100, dRM_init_101, dRM_init_104, dRM_init_107, dRM_init_110, dRM_init_111, dRM_init_114, dRM_init_115, dRM_init_116, dRM_init_119, dRM_init_120, dRM_init_123, dRM_init_126, dRM_init_129, dRM_init_130, dRM_init_133, dRM_init_134, dRM_init_137, dRM_init_140]
  refine gw_new (fs := [.int 0, .int 0, .null, .null, .int 0, .long 0, .null]) dRM_init_111 (show gCL[1]? = some ("RiddleMill$Maker", TMA, 7) from rfl) wk_RM_51 wx_MA wn_MA df_MA (Nat.le_of_ble_eq_true rfl) (Nat.le_of_ble_eq_true rfl) fun q4 hq4 hz4 => ?_
  have n4 : o ≠ q4 := fun e => by rw [← e, O4] at hq4; cases hq4
  refine gw_ev (T := gT0) 60 [] gRt_f (gTO_0 _ _ _ ⟨Nat.le_of_ble_eq_true rfl, Nat.le_of_ble_eq_true rfl⟩) ?_
  simp only [vc_i, vc_l, vc_r, vc_n, Nat.succ_ne_self, gSd_s, gEd_s, gEd_0, gEd_B, gB_t, gB_f, gGo_c, gGo_n, gAll_n, gAll_c, gwK_s, gCT, gCF, gSet, gSet2, gKill, gTw, gTs, gLs, List.map_cons, List.map_nil, fv0, fv1, fv2, fv3, List.getElem?_cons_zero, List.getElem?_cons_succ, List.set_cons_zero, List.set_cons_succ, List.not_mem_nil, List.mem_cons, Option.toList_some, Option.toList_none, List.cons_append, List.nil_append, if_false, if_true, true_and, and_true, forall_const, true_implies, false_implies, or_false, false_or, not_true_eq_false, not_false_eq_true, and_false, false_and, implies_true, Nat.reduceAdd, Nat.reduceEqDiff, Nat.reduceLT, ↓reduceIte, cls_RM_init, st_aload_n, st_invokespecial, st_iconst, st_iload_n, st_invokestatic, st_putfield, st_getfield, st_if_icmp, st_goto, st_new, st_dup, st_return_, (show mRM_init.2.2.1 = 3 from rfl), tn_RM_7, (show gT0 2 = none from rfl), tn_RM_13, (show gT0 3 = none from rfl), fp_RM_init_16, gF_RM_16, fp_RM_init_22, fp_RM_init_28, gF_RM_22, fp_RM_init_37, fp_RM_init_44, fp_RM_init_48, fp_RM_init_54, fp_RM_init_61, dRM_init_0, dRM_init_1, dRM_init_4, dRM_init_5, ic_3, dRM_init_6, ic_5, dRM_init_7, dRM_init_8, dRM_init_11, dRM_init_14, dRM_init_17, dRM_init_18, ic_1, dRM_init_19, dRM_init_20, dRM_init_23, dRM_init_24, tg_24_7, tz_24_7, dRM_init_27, ic_2, dRM_init_28, tg_28_4, tz_28_4, dRM_init_31, dRM_init_32, dRM_init_33, dRM_init_36, dRM_init_39, dRM_init_42, dRM_init_43, dRM_init_46, dRM_init_47, dRM_init_50, dRM_init_53, dRM_init_54, dRM_init_57, dRM_init_58, dRM_init_59, dRM_init_62, dRM_init_63, dRM_init_66, dRM_init_69, dRM_init_72, dRM_init_73, dRM_init_76, dRM_init_77, dRM_init_78, dRM_init_81, dRM_init_82, dRM_init_85, dRM_init_88, dRM_init_91, dRM_init_92, dRM_init_95, dRM_init_96, dRM_init_97, dRM_init_100, dRM_init_101, dRM_init_104, dRM_init_107, dRM_init_110, dRM_init_111, dRM_init_114, dRM_init_115, dRM_init_116, dRM_init_119, dRM_init_120, dRM_init_123, dRM_init_126, dRM_init_129, dRM_init_130, dRM_init_133, dRM_init_134, dRM_init_137, dRM_init_140, gup_n _ _ n4, O4]
  refine gw_callI (as := [.int (nI N), .int (nI K)]) (b := q4) (r := [.ref q4, .ref o]) (rm := grN 2 4 392) dRM_init_123 (c_MA_init l g cI hcI N K q4 (gup k4 q4 (.inr (1, [.int 0, .int 0, .null, .null, .int 0, .long 0, .null]))) (gup_s _ _ _)) wc_MA_init rfl rfl wl_RM_53 wi_MA_init wn_MA (by show _ ∧ _ ∧ _ = some 2; decide +kernel) ⟨by decide, Nat.le_of_ble_eq_true rfl⟩ (Nat.le_of_ble_eq_true rfl) ⟨Nat.le_of_ble_eq_true rfl, Nat.le_of_ble_eq_true rfl⟩ ?_
  intro vv4 j4 hvv4
  obtain ⟨rfl, A4, rfl, hN4, hX4⟩ := hvv4
  obtain ⟨P4, B4⟩ := blk_of (x := .inr (5, [.int (nI N), .int (nI K), .ref (A0 0), .ref (A1 0), .ref (A2 0), .ref (A3 0), .ref (A4 0), .null])) (m := 5) (by decide) O4 hq4 hz4 rfl hN4
  refine gw_ev (T := gT0) 60 [129] gRt_f (gTO_0 _ _ _ ⟨Nat.le_of_ble_eq_true rfl, Nat.le_of_ble_eq_true rfl⟩) ?_
  simp only [vc_i, vc_l, vc_r, vc_n, Nat.succ_ne_self, gSd_s, gEd_s, gEd_0, gEd_B, gB_t, gB_f, gGo_c, gGo_n, gAll_n, gAll_c, gwK_s, gCT, gCF, gSet, gSet2, gKill, gTw, gTs, gLs, List.map_cons, List.map_nil, fv0, fv1, fv2, fv3, List.getElem?_cons_zero, List.getElem?_cons_succ, List.set_cons_zero, List.set_cons_succ, List.not_mem_nil, List.mem_cons, Option.toList_some, Option.toList_none, List.cons_append, List.nil_append, if_false, if_true, true_and, and_true, forall_const, true_implies, false_implies, or_false, false_or, not_true_eq_false, not_false_eq_true, and_false, false_and, implies_true, Nat.reduceAdd, Nat.reduceEqDiff, Nat.reduceLT, ↓reduceIte, cls_RM_init, st_aload_n, st_invokespecial, st_iconst, st_iload_n, st_invokestatic, st_putfield, st_getfield, st_if_icmp, st_goto, st_new, st_dup, st_return_, (show mRM_init.2.2.1 = 3 from rfl), tn_RM_7, (show gT0 2 = none from rfl), tn_RM_13, (show gT0 3 = none from rfl), fp_RM_init_16, gF_RM_16, fp_RM_init_22, fp_RM_init_28, gF_RM_22, fp_RM_init_37, fp_RM_init_44, fp_RM_init_48, fp_RM_init_54, fp_RM_init_61, dRM_init_0, dRM_init_1, dRM_init_4, dRM_init_5, ic_3, dRM_init_6, ic_5, dRM_init_7, dRM_init_8, dRM_init_11, dRM_init_14, dRM_init_17, dRM_init_18, ic_1, dRM_init_19, dRM_init_20, dRM_init_23, dRM_init_24, tg_24_7, tz_24_7, dRM_init_27, ic_2, dRM_init_28, tg_28_4, tz_28_4, dRM_init_31, dRM_init_32, dRM_init_33, dRM_init_36, dRM_init_39, dRM_init_42, dRM_init_43, dRM_init_46, dRM_init_47, dRM_init_50, dRM_init_53, dRM_init_54, dRM_init_57, dRM_init_58, dRM_init_59, dRM_init_62, dRM_init_63, dRM_init_66, dRM_init_69, dRM_init_72, dRM_init_73, dRM_init_76, dRM_init_77, dRM_init_78, dRM_init_81, dRM_init_82, dRM_init_85, dRM_init_88, dRM_init_91, dRM_init_92, dRM_init_95, dRM_init_96, dRM_init_97, dRM_init_100, dRM_init_101, dRM_init_104, dRM_init_107, dRM_init_110, dRM_init_111, dRM_init_114, dRM_init_115, dRM_init_116, dRM_init_119, dRM_init_120, dRM_init_123, dRM_init_126, dRM_init_129, dRM_init_130, dRM_init_133, dRM_init_134, dRM_init_137, dRM_init_140, P4]
  refine ⟨⟨by show 6 < 8; decide, rfl, rfl⟩, ?_⟩
  obtain ⟨k5, e5⟩ : ∃ k, k = gup j4 o (.inr (5, [.int (nI N), .int (nI K), .ref (A0 0), .ref (A1 0), .ref (A2 0), .ref (A3 0), .ref (A4 0), .null])) := ⟨_, rfl⟩
  rw [← e5] at B4 ⊢
  have O5 : k5 o = some (.inr (5, [.int (nI N), .int (nI K), .ref (A0 0), .ref (A1 0), .ref (A2 0), .ref (A3 0), .ref (A4 0), .null])) := by rw [e5]; exact gup_s _ _ _
  have f4 : ∀ z, z < 5 → k5 (A4 z) = j4 (A4 z) := fun z hz => by rw [e5]; exact gup_n _ _ (B4.2.1 z hz).2.2
  have Y4 : isMA cI N K A4 (A4 3) (fun _ => 0, fun _ => 0, 0, 0) k5 := isMA_fr (fun z hz => f4 z (by omega)) hX4.1
  have Z4 : isCL cI (A4 3) (A4 4) 0 (fun _ => 0) k5 := isCL_fr (f4 3 (by decide)) (f4 4 (by decide)) hX4.2
  have V4 := live_MA Y4 Z4
  refine gw_ev (T := gT0) 60 [] gRt_f (gTO_0 _ _ _ ⟨Nat.le_of_ble_eq_true rfl, Nat.le_of_ble_eq_true rfl⟩) ?_
  simp only [vc_i, vc_l, vc_r, vc_n, Nat.succ_ne_self, gSd_s, gEd_s, gEd_0, gEd_B, gB_t, gB_f, gGo_c, gGo_n, gAll_n, gAll_c, gwK_s, gCT, gCF, gSet, gSet2, gKill, gTw, gTs, gLs, List.map_cons, List.map_nil, fv0, fv1, fv2, fv3, List.getElem?_cons_zero, List.getElem?_cons_succ, List.set_cons_zero, List.set_cons_succ, List.not_mem_nil, List.mem_cons, Option.toList_some, Option.toList_none, List.cons_append, List.nil_append, if_false, if_true, true_and, and_true, forall_const, true_implies, false_implies, or_false, false_or, not_true_eq_false, not_false_eq_true, and_false, false_and, implies_true, Nat.reduceAdd, Nat.reduceEqDiff, Nat.reduceLT, ↓reduceIte, cls_RM_init, st_aload_n, st_invokespecial, st_iconst, st_iload_n, st_invokestatic, st_putfield, st_getfield, st_if_icmp, st_goto, st_new, st_dup, st_return_, (show mRM_init.2.2.1 = 3 from rfl), tn_RM_7, (show gT0 2 = none from rfl), tn_RM_13, (show gT0 3 = none from rfl), fp_RM_init_16, gF_RM_16, fp_RM_init_22, fp_RM_init_28, gF_RM_22, fp_RM_init_37, fp_RM_init_44, fp_RM_init_48, fp_RM_init_54, fp_RM_init_61, dRM_init_0, dRM_init_1, dRM_init_4, dRM_init_5, ic_3, dRM_init_6, ic_5, dRM_init_7, dRM_init_8, dRM_init_11, dRM_init_14, dRM_init_17, dRM_init_18, ic_1, dRM_init_19, dRM_init_20, dRM_init_23, dRM_init_24, tg_24_7, tz_24_7, dRM_init_27, ic_2, dRM_init_28, tg_28_4, tz_28_4, dRM_init_31, dRM_init_32, dRM_init_33, dRM_init_36, dRM_init_39, dRM_init_42, dRM_init_43, dRM_init_46, dRM_init_47, dRM_init_50, dRM_init_53, dRM_init_54, dRM_init_57, dRM_init_58, dRM_init_59, dRM_init_62, dRM_init_63, dRM_init_66, dRM_init_69, dRM_init_72, dRM_init_73, dRM_init_76, dRM_init_77, dRM_init_78, dRM_init_81, dRM_init_82, dRM_init_85, dRM_init_88, dRM_init_91, dRM_init_92, dRM_init_95, dRM_init_96, dRM_init_97, dRM_init_100, dRM_init_101, dRM_init_104, dRM_init_107, dRM_init_110, dRM_init_111, dRM_init_114, dRM_init_115, dRM_init_116, dRM_init_119, dRM_init_120, dRM_init_123, dRM_init_126, dRM_init_129, dRM_init_130, dRM_init_133, dRM_init_134, dRM_init_137, dRM_init_140]
  refine gw_new (fs := [.null, .null, .int 0, .null, .int 0, .int 0, .int 0, .null, .int 0, .int 0, .int 0]) dRM_init_130 (show gCL[3]? = some ("RiddleMill$Speech", TSP, 11) from rfl) wk_RM_58 wx_SP wn_SP df_SP (Nat.le_of_ble_eq_true rfl) (Nat.le_of_ble_eq_true rfl) fun q5 hq5 hz5 => ?_
  have n5 : o ≠ q5 := fun e => by rw [← e, O5] at hq5; cases hq5
  refine gw_ev (T := gT0) 60 [] gRt_f (gTO_0 _ _ _ ⟨Nat.le_of_ble_eq_true rfl, Nat.le_of_ble_eq_true rfl⟩) ?_
  simp only [vc_i, vc_l, vc_r, vc_n, Nat.succ_ne_self, gSd_s, gEd_s, gEd_0, gEd_B, gB_t, gB_f, gGo_c, gGo_n, gAll_n, gAll_c, gwK_s, gCT, gCF, gSet, gSet2, gKill, gTw, gTs, gLs, List.map_cons, List.map_nil, fv0, fv1, fv2, fv3, List.getElem?_cons_zero, List.getElem?_cons_succ, List.set_cons_zero, List.set_cons_succ, List.not_mem_nil, List.mem_cons, Option.toList_some, Option.toList_none, List.cons_append, List.nil_append, if_false, if_true, true_and, and_true, forall_const, true_implies, false_implies, or_false, false_or, not_true_eq_false, not_false_eq_true, and_false, false_and, implies_true, Nat.reduceAdd, Nat.reduceEqDiff, Nat.reduceLT, ↓reduceIte, cls_RM_init, st_aload_n, st_invokespecial, st_iconst, st_iload_n, st_invokestatic, st_putfield, st_getfield, st_if_icmp, st_goto, st_new, st_dup, st_return_, (show mRM_init.2.2.1 = 3 from rfl), tn_RM_7, (show gT0 2 = none from rfl), tn_RM_13, (show gT0 3 = none from rfl), fp_RM_init_16, gF_RM_16, fp_RM_init_22, fp_RM_init_28, gF_RM_22, fp_RM_init_37, fp_RM_init_44, fp_RM_init_48, fp_RM_init_54, fp_RM_init_61, dRM_init_0, dRM_init_1, dRM_init_4, dRM_init_5, ic_3, dRM_init_6, ic_5, dRM_init_7, dRM_init_8, dRM_init_11, dRM_init_14, dRM_init_17, dRM_init_18, ic_1, dRM_init_19, dRM_init_20, dRM_init_23, dRM_init_24, tg_24_7, tz_24_7, dRM_init_27, ic_2, dRM_init_28, tg_28_4, tz_28_4, dRM_init_31, dRM_init_32, dRM_init_33, dRM_init_36, dRM_init_39, dRM_init_42, dRM_init_43, dRM_init_46, dRM_init_47, dRM_init_50, dRM_init_53, dRM_init_54, dRM_init_57, dRM_init_58, dRM_init_59, dRM_init_62, dRM_init_63, dRM_init_66, dRM_init_69, dRM_init_72, dRM_init_73, dRM_init_76, dRM_init_77, dRM_init_78, dRM_init_81, dRM_init_82, dRM_init_85, dRM_init_88, dRM_init_91, dRM_init_92, dRM_init_95, dRM_init_96, dRM_init_97, dRM_init_100, dRM_init_101, dRM_init_104, dRM_init_107, dRM_init_110, dRM_init_111, dRM_init_114, dRM_init_115, dRM_init_116, dRM_init_119, dRM_init_120, dRM_init_123, dRM_init_126, dRM_init_129, dRM_init_130, dRM_init_133, dRM_init_134, dRM_init_137, dRM_init_140, gup_n _ _ n5, O5]
  refine gw_callIN (as := []) (b := q5) (r := [.ref q5, .ref o]) (rm := grN 1 4 165) dRM_init_134 (c_SP_init l g cL cI hcL hcI q5 (gup k5 q5 (.inr (3, [.null, .null, .int 0, .null, .int 0, .int 0, .int 0, .null, .int 0, .int 0, .int 0]))) (gup_s _ _ _)) wc_SP_init rfl rfl wz_RM_60 wi_SP_init wn_SP (by show _ ∧ _ ∧ _ = some 0; decide +kernel) ⟨by decide, Nat.le_of_ble_eq_true rfl⟩ (Nat.le_of_ble_eq_true rfl) ⟨Nat.le_of_ble_eq_true rfl, Nat.le_of_ble_eq_true rfl⟩ ?_
  intro vv5 j5 hvv5
  obtain ⟨rfl, A5, rfl, hN5, hX5⟩ := hvv5
  obtain ⟨P5, B5⟩ := blk_of (x := .inr (5, [.int (nI N), .int (nI K), .ref (A0 0), .ref (A1 0), .ref (A2 0), .ref (A3 0), .ref (A4 0), .ref (A5 0)])) (m := 5) (by decide) O5 hq5 hz5 rfl hN5
  refine gw_ev (T := gT0) 60 [140] gRt_f (gTO_0 _ _ _ ⟨Nat.le_of_ble_eq_true rfl, Nat.le_of_ble_eq_true rfl⟩) ?_
  simp only [vc_i, vc_l, vc_r, vc_n, Nat.succ_ne_self, gSd_s, gEd_s, gEd_0, gEd_B, gB_t, gB_f, gGo_c, gGo_n, gAll_n, gAll_c, gwK_s, gCT, gCF, gSet, gSet2, gKill, gTw, gTs, gLs, List.map_cons, List.map_nil, fv0, fv1, fv2, fv3, List.getElem?_cons_zero, List.getElem?_cons_succ, List.set_cons_zero, List.set_cons_succ, List.not_mem_nil, List.mem_cons, Option.toList_some, Option.toList_none, List.cons_append, List.nil_append, if_false, if_true, true_and, and_true, forall_const, true_implies, false_implies, or_false, false_or, not_true_eq_false, not_false_eq_true, and_false, false_and, implies_true, Nat.reduceAdd, Nat.reduceEqDiff, Nat.reduceLT, ↓reduceIte, cls_RM_init, st_aload_n, st_invokespecial, st_iconst, st_iload_n, st_invokestatic, st_putfield, st_getfield, st_if_icmp, st_goto, st_new, st_dup, st_return_, (show mRM_init.2.2.1 = 3 from rfl), tn_RM_7, (show gT0 2 = none from rfl), tn_RM_13, (show gT0 3 = none from rfl), fp_RM_init_16, gF_RM_16, fp_RM_init_22, fp_RM_init_28, gF_RM_22, fp_RM_init_37, fp_RM_init_44, fp_RM_init_48, fp_RM_init_54, fp_RM_init_61, dRM_init_0, dRM_init_1, dRM_init_4, dRM_init_5, ic_3, dRM_init_6, ic_5, dRM_init_7, dRM_init_8, dRM_init_11, dRM_init_14, dRM_init_17, dRM_init_18, ic_1, dRM_init_19, dRM_init_20, dRM_init_23, dRM_init_24, tg_24_7, tz_24_7, dRM_init_27, ic_2, dRM_init_28, tg_28_4, tz_28_4, dRM_init_31, dRM_init_32, dRM_init_33, dRM_init_36, dRM_init_39, dRM_init_42, dRM_init_43, dRM_init_46, dRM_init_47, dRM_init_50, dRM_init_53, dRM_init_54, dRM_init_57, dRM_init_58, dRM_init_59, dRM_init_62, dRM_init_63, dRM_init_66, dRM_init_69, dRM_init_72, dRM_init_73, dRM_init_76, dRM_init_77, dRM_init_78, dRM_init_81, dRM_init_82, dRM_init_85, dRM_init_88, dRM_init_91, dRM_init_92, dRM_init_95, dRM_init_96, dRM_init_97, dRM_init_100, dRM_init_101, dRM_init_104, dRM_init_107, dRM_init_110, dRM_init_111, dRM_init_114, dRM_init_115, dRM_init_116, dRM_init_119, dRM_init_120, dRM_init_123, dRM_init_126, dRM_init_129, dRM_init_130, dRM_init_133, dRM_init_134, dRM_init_137, dRM_init_140, P5]
  refine ⟨⟨by show 7 < 8; decide, rfl, rfl⟩, ?_⟩
  obtain ⟨k6, e6⟩ : ∃ k, k = gup j5 o (.inr (5, [.int (nI N), .int (nI K), .ref (A0 0), .ref (A1 0), .ref (A2 0), .ref (A3 0), .ref (A4 0), .ref (A5 0)])) := ⟨_, rfl⟩
  rw [← e6] at B5 ⊢
  have O6 : k6 o = some (.inr (5, [.int (nI N), .int (nI K), .ref (A0 0), .ref (A1 0), .ref (A2 0), .ref (A3 0), .ref (A4 0), .ref (A5 0)])) := by rw [e6]; exact gup_s _ _ _
  have f5 : ∀ z, z < 5 → k6 (A5 z) = j5 (A5 z) := fun z hz => by rw [e6]; exact gup_n _ _ (B5.2.1 z hz).2.2
  have Y5 : isSP cL cI A5 ss9 k6 := isSP_fr f5 hX5
  have V5 := live_SP Y5
  have K0 : keep k1 k6 o := keep_t (keep_t (keep_t (keep_t (blk_k B1) (blk_k B2)) (blk_k B3)) (blk_k B4)) (blk_k B5)
  have K1 : keep k2 k6 o := keep_t (keep_t (keep_t (blk_k B2) (blk_k B3)) (blk_k B4)) (blk_k B5)
  have K2 : keep k3 k6 o := keep_t (keep_t (blk_k B3) (blk_k B4)) (blk_k B5)
  have K3 : keep k4 k6 o := keep_t (blk_k B4) (blk_k B5)
  have K4 : keep k5 k6 o := blk_k B5
  have o0 : ∀ z, z < 2 → A0 z ≠ o := fun z hz => (B0.2.1 z hz).2.2
  have o1 : ∀ z, z < 7 → A1 z ≠ o := fun z hz => (B1.2.1 z hz).2.2
  have o2 : ∀ z, z < 6 → A2 z ≠ o := fun z hz => (B2.2.1 z hz).2.2
  have o3 : ∀ z, z < 6 → A3 z ≠ o := fun z hz => (B3.2.1 z hz).2.2
  have o4 : ∀ z, z < 5 → A4 z ≠ o := fun z hz => (B4.2.1 z hz).2.2
  have o5 : ∀ z, z < 5 → A5 z ≠ o := fun z hz => (B5.2.1 z hz).2.2
  have L0_1 : ∀ z, z < 2 → k1 (A0 z) ≠ none := V0
  have D0_1 : ∀ a, a < 2 → ∀ b, b < 7 → A0 a ≠ A1 b := fun a ha b hb => blk_n B1 (L0_1 a ha) b hb
  have L0_2 : ∀ z, z < 2 → k2 (A0 z) ≠ none := fun z hz => by rw [blk_k B1 _ (o0 z hz) (L0_1 z hz)]; exact L0_1 z hz
  have D0_2 : ∀ a, a < 2 → ∀ b, b < 6 → A0 a ≠ A2 b := fun a ha b hb => blk_n B2 (L0_2 a ha) b hb
  have L0_3 : ∀ z, z < 2 → k3 (A0 z) ≠ none := fun z hz => by rw [blk_k B2 _ (o0 z hz) (L0_2 z hz)]; exact L0_2 z hz
  have D0_3 : ∀ a, a < 2 → ∀ b, b < 6 → A0 a ≠ A3 b := fun a ha b hb => blk_n B3 (L0_3 a ha) b hb
  have L0_4 : ∀ z, z < 2 → k4 (A0 z) ≠ none := fun z hz => by rw [blk_k B3 _ (o0 z hz) (L0_3 z hz)]; exact L0_3 z hz
  have D0_4 : ∀ a, a < 2 → ∀ b, b < 5 → A0 a ≠ A4 b := fun a ha b hb => blk_n B4 (L0_4 a ha) b hb
  have L0_5 : ∀ z, z < 2 → k5 (A0 z) ≠ none := fun z hz => by rw [blk_k B4 _ (o0 z hz) (L0_4 z hz)]; exact L0_4 z hz
  have D0_5 : ∀ a, a < 2 → ∀ b, b < 5 → A0 a ≠ A5 b := fun a ha b hb => blk_n B5 (L0_5 a ha) b hb
  have L1_2 : ∀ z, z < 7 → k2 (A1 z) ≠ none := V1
  have D1_2 : ∀ a, a < 7 → ∀ b, b < 6 → A1 a ≠ A2 b := fun a ha b hb => blk_n B2 (L1_2 a ha) b hb
  have L1_3 : ∀ z, z < 7 → k3 (A1 z) ≠ none := fun z hz => by rw [blk_k B2 _ (o1 z hz) (L1_2 z hz)]; exact L1_2 z hz
  have D1_3 : ∀ a, a < 7 → ∀ b, b < 6 → A1 a ≠ A3 b := fun a ha b hb => blk_n B3 (L1_3 a ha) b hb
  have L1_4 : ∀ z, z < 7 → k4 (A1 z) ≠ none := fun z hz => by rw [blk_k B3 _ (o1 z hz) (L1_3 z hz)]; exact L1_3 z hz
  have D1_4 : ∀ a, a < 7 → ∀ b, b < 5 → A1 a ≠ A4 b := fun a ha b hb => blk_n B4 (L1_4 a ha) b hb
  have L1_5 : ∀ z, z < 7 → k5 (A1 z) ≠ none := fun z hz => by rw [blk_k B4 _ (o1 z hz) (L1_4 z hz)]; exact L1_4 z hz
  have D1_5 : ∀ a, a < 7 → ∀ b, b < 5 → A1 a ≠ A5 b := fun a ha b hb => blk_n B5 (L1_5 a ha) b hb
  have L2_3 : ∀ z, z < 6 → k3 (A2 z) ≠ none := V2
  have D2_3 : ∀ a, a < 6 → ∀ b, b < 6 → A2 a ≠ A3 b := fun a ha b hb => blk_n B3 (L2_3 a ha) b hb
  have L2_4 : ∀ z, z < 6 → k4 (A2 z) ≠ none := fun z hz => by rw [blk_k B3 _ (o2 z hz) (L2_3 z hz)]; exact L2_3 z hz
  have D2_4 : ∀ a, a < 6 → ∀ b, b < 5 → A2 a ≠ A4 b := fun a ha b hb => blk_n B4 (L2_4 a ha) b hb
  have L2_5 : ∀ z, z < 6 → k5 (A2 z) ≠ none := fun z hz => by rw [blk_k B4 _ (o2 z hz) (L2_4 z hz)]; exact L2_4 z hz
  have D2_5 : ∀ a, a < 6 → ∀ b, b < 5 → A2 a ≠ A5 b := fun a ha b hb => blk_n B5 (L2_5 a ha) b hb
  have L3_4 : ∀ z, z < 6 → k4 (A3 z) ≠ none := V3
  have D3_4 : ∀ a, a < 6 → ∀ b, b < 5 → A3 a ≠ A4 b := fun a ha b hb => blk_n B4 (L3_4 a ha) b hb
  have L3_5 : ∀ z, z < 6 → k5 (A3 z) ≠ none := fun z hz => by rw [blk_k B4 _ (o3 z hz) (L3_4 z hz)]; exact L3_4 z hz
  have D3_5 : ∀ a, a < 6 → ∀ b, b < 5 → A3 a ≠ A5 b := fun a ha b hb => blk_n B5 (L3_5 a ha) b hb
  have L4_5 : ∀ z, z < 5 → k5 (A4 z) ≠ none := V4
  have D4_5 : ∀ a, a < 5 → ∀ b, b < 5 → A4 a ≠ A5 b := fun a ha b hb => blk_n B5 (L4_5 a ha) b hb
  have ap1 : apU (cat 2 A0 (cat 5 A4 (cat 7 A1 (cat 6 A3 (cat 6 A2 A5))))) 31 := (cat_ap (m := 2) B0.1 (cat_ap (m := 5) B4.1 (cat_ap (m := 7) B1.1 (cat_ap (m := 6) B3.1 (cat_ap (m := 6) B2.1 B5.1 D2_5) (fun a ha => cat_ne ((fun a ha b hb => Ne.symm (D2_3 b hb a ha)) a ha) (D3_5 a ha))) (fun a ha => cat_ne (D1_3 a ha) ((fun a ha => cat_ne (D1_2 a ha) (D1_5 a ha)) a ha))) (fun a ha => cat_ne ((fun a ha b hb => Ne.symm (D1_4 b hb a ha)) a ha) ((fun a ha => cat_ne ((fun a ha b hb => Ne.symm (D3_4 b hb a ha)) a ha) ((fun a ha => cat_ne ((fun a ha b hb => Ne.symm (D2_4 b hb a ha)) a ha) (D4_5 a ha)) a ha)) a ha))) (fun a ha => cat_ne (D0_4 a ha) ((fun a ha => cat_ne (D0_1 a ha) ((fun a ha => cat_ne (D0_3 a ha) ((fun a ha => cat_ne (D0_2 a ha) (D0_5 a ha)) a ha)) a ha)) a ha)))
  obtain ⟨M1, hM1⟩ : ∃ M, M = (cat 2 A0 (cat 5 A4 (cat 7 A1 (cat 6 A3 (cat 6 A2 A5))))) := ⟨_, rfl⟩
  have N0 : ∀ z, z < 2 → h (A0 z) = none ∧ gsz g ≤ A0 z := fun z hz => ⟨by
    rw [← hk _ (o0 z hz)]
    by_cases c : k0 (A0 z) = none
    · exact c
    · exact absurd (B0.2.1 z hz).1 c
    , (B0.2.1 z hz).2.1⟩
  have N1 : ∀ z, z < 7 → h (A1 z) = none ∧ gsz g ≤ A1 z := fun z hz => ⟨by
    rw [← hk _ (o1 z hz)]
    by_cases c : k0 (A1 z) = none
    · exact c
    · exact absurd ((blk_k B0) _ (o1 z hz) c ▸ (B1.2.1 z hz).1) c
    , (B1.2.1 z hz).2.1⟩
  have N2 : ∀ z, z < 6 → h (A2 z) = none ∧ gsz g ≤ A2 z := fun z hz => ⟨by
    rw [← hk _ (o2 z hz)]
    by_cases c : k0 (A2 z) = none
    · exact c
    · exact absurd ((keep_t (blk_k B0) (blk_k B1)) _ (o2 z hz) c ▸ (B2.2.1 z hz).1) c
    , (B2.2.1 z hz).2.1⟩
  have N3 : ∀ z, z < 6 → h (A3 z) = none ∧ gsz g ≤ A3 z := fun z hz => ⟨by
    rw [← hk _ (o3 z hz)]
    by_cases c : k0 (A3 z) = none
    · exact c
    · exact absurd ((keep_t (keep_t (blk_k B0) (blk_k B1)) (blk_k B2)) _ (o3 z hz) c ▸ (B3.2.1 z hz).1) c
    , (B3.2.1 z hz).2.1⟩
  have N4 : ∀ z, z < 5 → h (A4 z) = none ∧ gsz g ≤ A4 z := fun z hz => ⟨by
    rw [← hk _ (o4 z hz)]
    by_cases c : k0 (A4 z) = none
    · exact c
    · exact absurd ((keep_t (keep_t (keep_t (blk_k B0) (blk_k B1)) (blk_k B2)) (blk_k B3)) _ (o4 z hz) c ▸ (B4.2.1 z hz).1) c
    , (B4.2.1 z hz).2.1⟩
  have N5 : ∀ z, z < 5 → h (A5 z) = none ∧ gsz g ≤ A5 z := fun z hz => ⟨by
    rw [← hk _ (o5 z hz)]
    by_cases c : k0 (A5 z) = none
    · exact c
    · exact absurd ((keep_t (keep_t (keep_t (keep_t (blk_k B0) (blk_k B1)) (blk_k B2)) (blk_k B3)) (blk_k B4)) _ (o5 z hz) c ▸ (B5.2.1 z hz).1) c
    , (B5.2.1 z hz).2.1⟩
  have fr1 : ∀ z, z < 31 → h (M1 z) = none ∧ gsz g ≤ M1 z := by rw [hM1]; exact (cat_all (P := fun a => h a = none ∧ gsz g ≤ a) (m := 2) N0 (cat_all (P := fun a => h a = none ∧ gsz g ≤ a) (m := 5) N4 (cat_all (P := fun a => h a = none ∧ gsz g ≤ a) (m := 7) N1 (cat_all (P := fun a => h a = none ∧ gsz g ≤ a) (m := 6) N3 (cat_all (P := fun a => h a = none ∧ gsz g ≤ a) (m := 6) N2 N5)))))
  have on1 : ∀ z, z < 31 → o ≠ M1 z := by rw [hM1]; exact (cat_all (P := fun a => o ≠ a) (m := 2) (fun z hz => Ne.symm (o0 z hz)) (cat_all (P := fun a => o ≠ a) (m := 5) (fun z hz => Ne.symm (o4 z hz)) (cat_all (P := fun a => o ≠ a) (m := 7) (fun z hz => Ne.symm (o1 z hz)) (cat_all (P := fun a => o ≠ a) (m := 6) (fun z hz => Ne.symm (o3 z hz)) (cat_all (P := fun a => o ≠ a) (m := 6) (fun z hz => Ne.symm (o2 z hz)) (fun z hz => Ne.symm (o5 z hz)))))))
  have ap2 : apU (cat 1 (fun _ => o) M1) 32 := cat_ap (m := 1) (n := 31) (fun i j hi hj _ => by omega) (by rw [hM1]; exact ap1) (fun i hi => on1)
  have hEnd : isRM cL cI N K (cat 1 (fun _ => o) M1) rm9 k6 := by
    rw [hM1]
    have u1 := isCL_fr (K0 _ (o0 0 (by decide)) (V0 0 (by decide))) (K0 _ (o0 1 (by decide)) (V0 1 (by decide))) Y0
    have u2 := isWO_fr (fun z hz => K1 _ (o1 z hz) (V1 z hz)) Y1
    have u3 := isPR_fr (fun z hz => K2 _ (o2 z hz) (V2 z hz)) Y2
    have u4 := isPR_fr (fun z hz => K3 _ (o3 z hz) (V3 z hz)) Y3
    have u5 := isMA_fr (fun z hz => K4 _ (o4 z (by omega)) (V4 z (by omega))) Y4
    have u6 := isCL_fr (K4 _ (o4 3 (by decide)) (V4 3 (by decide))) (K4 _ (o4 4 (by decide)) (V4 4 (by decide))) Z4
    exact ⟨O6, u1, ⟨u5, u6, u2, u4⟩, u3, Y5⟩
  have hfr : ∀ q, (∀ i, i < 32 → q ≠ cat 1 (fun _ => o) M1 i) → k6 q = h q := fun q hq => by
    have qo : q ≠ o := hq 0 (by decide)
    have qM : ∀ z, z < 31 → q ≠ M1 z := fun z hz => by
      have q9 := hq (z + 1) (by omega)
      have c9 : ¬ z + 1 < 1 := by omega
      simp only [cat, c9, if_false, Nat.add_sub_cancel] at q9
      exact q9
    rw [hM1] at qM
    have g0 : ∀ z, z < 2 → q ≠ A0 z := fun z hz => by
      have q9 := qM (z) (by omega)
      have c0 : z < 2 := hz
      simp only [cat, c0, if_true, if_false] at q9
      exact q9
    have g1 : ∀ z, z < 7 → q ≠ A1 z := fun z hz => by
      have q9 := qM (z + 7) (by omega)
      have c0 : ¬ z + 7 < 2 := by omega
      have m0 : z + 7 - 2 = z + 5 := by omega
      have c1 : ¬ z + 5 < 5 := by omega
      have m1 : z + 5 - 5 = z := by omega
      have c2 : z < 7 := hz
      simp only [cat, c0, m0, c1, m1, c2, if_true, if_false] at q9
      exact q9
    have g2 : ∀ z, z < 6 → q ≠ A2 z := fun z hz => by
      have q9 := qM (z + 20) (by omega)
      have c0 : ¬ z + 20 < 2 := by omega
      have m0 : z + 20 - 2 = z + 18 := by omega
      have c1 : ¬ z + 18 < 5 := by omega
      have m1 : z + 18 - 5 = z + 13 := by omega
      have c2 : ¬ z + 13 < 7 := by omega
      have m2 : z + 13 - 7 = z + 6 := by omega
      have c3 : ¬ z + 6 < 6 := by omega
      have m3 : z + 6 - 6 = z := by omega
      have c4 : z < 6 := hz
      simp only [cat, c0, m0, c1, m1, c2, m2, c3, m3, c4, if_true, if_false] at q9
      exact q9
    have g3 : ∀ z, z < 6 → q ≠ A3 z := fun z hz => by
      have q9 := qM (z + 14) (by omega)
      have c0 : ¬ z + 14 < 2 := by omega
      have m0 : z + 14 - 2 = z + 12 := by omega
      have c1 : ¬ z + 12 < 5 := by omega
      have m1 : z + 12 - 5 = z + 7 := by omega
      have c2 : ¬ z + 7 < 7 := by omega
      have m2 : z + 7 - 7 = z := by omega
      have c3 : z < 6 := hz
      simp only [cat, c0, m0, c1, m1, c2, m2, c3, if_true, if_false] at q9
      exact q9
    have g4 : ∀ z, z < 5 → q ≠ A4 z := fun z hz => by
      have q9 := qM (z + 2) (by omega)
      have c0 : ¬ z + 2 < 2 := by omega
      have m0 : z + 2 - 2 = z := by omega
      have c1 : z < 5 := hz
      simp only [cat, c0, m0, c1, if_true, if_false] at q9
      exact q9
    have g5 : ∀ z, z < 5 → q ≠ A5 z := fun z hz => by
      have q9 := qM (z + 26) (by omega)
      have c0 : ¬ z + 26 < 2 := by omega
      have m0 : z + 26 - 2 = z + 24 := by omega
      have c1 : ¬ z + 24 < 5 := by omega
      have m1 : z + 24 - 5 = z + 19 := by omega
      have c2 : ¬ z + 19 < 7 := by omega
      have m2 : z + 19 - 7 = z + 12 := by omega
      have c3 : ¬ z + 12 < 6 := by omega
      have m3 : z + 12 - 6 = z + 6 := by omega
      have c4 : ¬ z + 6 < 6 := by omega
      have m4 : z + 6 - 6 = z := by omega
      simp only [cat, c0, m0, c1, m1, c2, m2, c3, m3, c4, m4, if_true, if_false] at q9
      exact q9
    rw [B5.2.2 q qo g5, B4.2.2 q qo g4, B3.2.2 q qo g3, B2.2.2 q qo g2, B1.2.2 q qo g1, B0.2.2 q qo g0]
    exact hk q qo
  refine gw_ev (T := gT0) 60 [] gRt_m (gTO_0 _ _ _ ⟨Nat.le_of_ble_eq_true rfl, Nat.le_of_ble_eq_true rfl⟩) ?_
  simp only [vc_i, vc_l, vc_r, vc_n, Nat.succ_ne_self, gSd_s, gEd_s, gEd_0, gEd_B, gB_t, gB_f, gGo_c, gGo_n, gAll_n, gAll_c, gwK_s, gCT, gCF, gSet, gSet2, gKill, gTw, gTs, gLs, List.map_cons, List.map_nil, fv0, fv1, fv2, fv3, List.getElem?_cons_zero, List.getElem?_cons_succ, List.set_cons_zero, List.set_cons_succ, List.not_mem_nil, List.mem_cons, Option.toList_some, Option.toList_none, List.cons_append, List.nil_append, if_false, if_true, true_and, and_true, forall_const, true_implies, false_implies, or_false, false_or, not_true_eq_false, not_false_eq_true, and_false, false_and, implies_true, Nat.reduceAdd, Nat.reduceEqDiff, Nat.reduceLT, ↓reduceIte, cls_RM_init, st_aload_n, st_invokespecial, st_iconst, st_iload_n, st_invokestatic, st_putfield, st_getfield, st_if_icmp, st_goto, st_new, st_dup, st_return_, (show mRM_init.2.2.1 = 3 from rfl), tn_RM_7, (show gT0 2 = none from rfl), tn_RM_13, (show gT0 3 = none from rfl), fp_RM_init_16, gF_RM_16, fp_RM_init_22, fp_RM_init_28, gF_RM_22, fp_RM_init_37, fp_RM_init_44, fp_RM_init_48, fp_RM_init_54, fp_RM_init_61, dRM_init_0, dRM_init_1, dRM_init_4, dRM_init_5, ic_3, dRM_init_6, ic_5, dRM_init_7, dRM_init_8, dRM_init_11, dRM_init_14, dRM_init_17, dRM_init_18, ic_1, dRM_init_19, dRM_init_20, dRM_init_23, dRM_init_24, tg_24_7, tz_24_7, dRM_init_27, ic_2, dRM_init_28, tg_28_4, tz_28_4, dRM_init_31, dRM_init_32, dRM_init_33, dRM_init_36, dRM_init_39, dRM_init_42, dRM_init_43, dRM_init_46, dRM_init_47, dRM_init_50, dRM_init_53, dRM_init_54, dRM_init_57, dRM_init_58, dRM_init_59, dRM_init_62, dRM_init_63, dRM_init_66, dRM_init_69, dRM_init_72, dRM_init_73, dRM_init_76, dRM_init_77, dRM_init_78, dRM_init_81, dRM_init_82, dRM_init_85, dRM_init_88, dRM_init_91, dRM_init_92, dRM_init_95, dRM_init_96, dRM_init_97, dRM_init_100, dRM_init_101, dRM_init_104, dRM_init_107, dRM_init_110, dRM_init_111, dRM_init_114, dRM_init_115, dRM_init_116, dRM_init_119, dRM_init_120, dRM_init_123, dRM_init_126, dRM_init_129, dRM_init_130, dRM_init_133, dRM_init_134, dRM_init_137, dRM_init_140]
  refine ⟨rfl, cat 1 (fun _ => o) M1, rfl, ⟨ap2, fun i h1 h2 => ?_, hfr⟩, hEnd⟩
  have c9 : ¬ i < 1 := by omega
  simp only [cat, c9, if_false]
  exact fr1 (i - 1) (by omega)
