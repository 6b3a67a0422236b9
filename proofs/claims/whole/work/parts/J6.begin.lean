-- the law's walk from its entry to its loop
def h9 : gH := fun _ => none
set_option maxRecDepth 100000 in
set_option maxHeartbeats 4000000 in
theorem lw_begin (l : Launch) (htl : noTr l) (g : gG) (cB cL cI : ClassId) (hcB : (cB, FieldType.byte) ∈ g.2.1) (hcL : (cL, FieldType.long) ∈ g.2.1) (hcI : (cI, FieldType.int) ∈ g.2.1) (gW : gtW g < gsz g) (gF : gtF g < gsz g) (gS : gsb g < gsz g) (hL : gsL g ≤ 3586) (nSW : ¬ gsb g = gtW g) (nFW : ¬ gtF g = gtW g) (Z : gZ) (hE : ∀ (lv : gV) (h : gH), gw l g mLW_law room_1 h9 (gZl h9 Z) 601024 7293000 903 lv [] h) : gw l g mLW_law room_1 h9 (gZl h9 Z) 0 0 0 [some (.ref (gsb g)), none, none, none, none, none, none] [] h9 := by
  obtain ⟨x0, ex0⟩ : ∃ x0, x0 = (if 0 < gsL g then gsx g 0 else 0) := ⟨_, rfl⟩
  obtain ⟨y0, ey0⟩ : ∃ y0, y0 = (if 1 < gsL g then gsx g 1 else 0) := ⟨_, rfl⟩
  have C0 := fun (h : gH) hs => c_LW_cell l g 0 (by decide) hL h hs nSW
  have C1 := fun (h : gH) hs => c_LW_cell l g 1 (by decide) hL h hs nSW
  rw [← ex0] at C0
  rw [← ey0] at C1
  refine gw_new (fs := fRM9) dLW_law_0 (show gCL[5]? = some ("RiddleMill", TRM, 8) from rfl) wk_LW_8 wx_RM wn_RM df_RM (Nat.le_of_ble_eq_true rfl) (Nat.le_of_ble_eq_true rfl) fun o ho zo => ?_
  have so : gsb g ≠ o := by omega
  obtain ⟨h1, eh1⟩ : ∃ h1, h1 = gup h9 o (.inr (5, fRM9)) := ⟨_, rfl⟩
  rw [← eh1]
  have ko : h1 o = some (.inr (5, fRM9)) := by rw [eh1]; exact gup_s _ _ _
  have hs1 : h1 (gsb g) = none := by rw [eh1, gup_n _ _ so]; rfl
  have f1 : ∀ q, q ≠ o → h1 q = none := fun q hq => by rw [eh1, gup_n _ _ hq]; rfl
  refine gw_ev (T := gT0) 60 [6] gRt_f (gTO_0 _ _ _ ⟨Nat.le_of_ble_eq_true rfl, Nat.le_of_ble_eq_true rfl⟩) ?_
  simp only [vc_i, vc_l, vc_r, vc_n, Nat.succ_ne_self, gSd_s, gEd_s, gEd_0, gEd_B, gB_t, gB_f, gGo_c, gGo_n, gAll_n, gAll_c, gwK_s, gCT, gCF, gSet, gSet2, gKill, gTw, gTs, gLs, List.map_cons, List.map_nil, fv0, fv1, fv2, fv3, List.getElem?_cons_zero, List.getElem?_cons_succ, List.set_cons_zero, List.set_cons_succ, List.not_mem_nil, List.mem_cons, Option.toList_some, Option.toList_none, List.cons_append, List.nil_append, if_false, if_true, true_and, and_true, forall_const, true_implies, false_implies, or_false, false_or, not_true_eq_false, not_false_eq_true, and_false, false_and, implies_true, Nat.reduceAdd, Nat.reduceEqDiff, Nat.reduceLT, ↓reduceIte, cls_LW_law, st_new, st_dup, st_aload_n, st_iconst, st_invokestatic, st_invokespecial, st_astore_n, st_newarray, st_istore, st_iinc, st_goto, st_ireturn, (show mLW_law.2.2.1 = 7 from rfl), tn_LW_39, (show gT0 63 = none from rfl), dLW_law_0, dLW_law_3, dLW_law_4, dLW_law_5, ic_0, dLW_law_6, dLW_law_9, dLW_law_10, ic_1, dLW_law_11, dLW_law_14, dLW_law_17, dLW_law_18, dLW_law_21, dLW_law_22, dLW_law_23, dLW_law_24, dLW_law_27, dLW_law_28, dLW_law_29, dLW_law_32, dLW_law_35, dLW_law_36, dLW_law_37, dLW_law_39, dLW_law_40, ic_2, dLW_law_41, dLW_law_897, ic_7, dLW_law_900, tg_900_m857, tz_900_m857, dLW_law_903, dLW_law_904]
  refine gw_callS (as := [.ref (gsb g), .int (nI 0)]) (r := [.ref o, .ref o]) (rm := gr 0) dLW_law_6 (C0 h1 hs1) wc_LW_cell wl_LW_39 wt_LW_cell wn_LW (by show _ ∧ _ ∧ _ = some 2; decide +kernel) ⟨by decide, by decide⟩ (Nat.le_of_ble_eq_true rfl) ⟨Nat.le_of_ble_eq_true rfl, Nat.le_of_ble_eq_true rfl⟩ ?_
  intro v h' hv
  obtain ⟨rfl, e'⟩ := hv
  rw [e']
  refine gw_ev (T := gT0) 60 [11] gRt_f (gTO_0 _ _ _ ⟨Nat.le_of_ble_eq_true rfl, Nat.le_of_ble_eq_true rfl⟩) ?_
  simp only [vc_i, vc_l, vc_r, vc_n, Nat.succ_ne_self, gSd_s, gEd_s, gEd_0, gEd_B, gB_t, gB_f, gGo_c, gGo_n, gAll_n, gAll_c, gwK_s, gCT, gCF, gSet, gSet2, gKill, gTw, gTs, gLs, List.map_cons, List.map_nil, fv0, fv1, fv2, fv3, List.getElem?_cons_zero, List.getElem?_cons_succ, List.set_cons_zero, List.set_cons_succ, List.not_mem_nil, List.mem_cons, Option.toList_some, Option.toList_none, List.cons_append, List.nil_append, if_false, if_true, true_and, and_true, forall_const, true_implies, false_implies, or_false, false_or, not_true_eq_false, not_false_eq_true, and_false, false_and, implies_true, Nat.reduceAdd, Nat.reduceEqDiff, Nat.reduceLT, ↓reduceIte, cls_LW_law, st_new, st_dup, st_aload_n, st_iconst, st_invokestatic, st_invokespecial, st_astore_n, st_newarray, st_istore, st_iinc, st_goto, st_ireturn, (show mLW_law.2.2.1 = 7 from rfl), tn_LW_39, (show gT0 63 = none from rfl), dLW_law_0, dLW_law_3, dLW_law_4, dLW_law_5, ic_0, dLW_law_6, dLW_law_9, dLW_law_10, ic_1, dLW_law_11, dLW_law_14, dLW_law_17, dLW_law_18, dLW_law_21, dLW_law_22, dLW_law_23, dLW_law_24, dLW_law_27, dLW_law_28, dLW_law_29, dLW_law_32, dLW_law_35, dLW_law_36, dLW_law_37, dLW_law_39, dLW_law_40, ic_2, dLW_law_41, dLW_law_897, ic_7, dLW_law_900, tg_900_m857, tz_900_m857, dLW_law_903, dLW_law_904]
  refine gw_callS (as := [.ref (gsb g), .int (nI 1)]) (r := [.int x0, .ref o, .ref o]) (rm := gr 0) dLW_law_11 (C1 h1 hs1) wc_LW_cell wl_LW_39 wt_LW_cell wn_LW (by show _ ∧ _ ∧ _ = some 2; decide +kernel) ⟨by decide, by decide⟩ (Nat.le_of_ble_eq_true rfl) ⟨Nat.le_of_ble_eq_true rfl, Nat.le_of_ble_eq_true rfl⟩ ?_
  intro v h' hv
  obtain ⟨rfl, e'⟩ := hv
  rw [e']
  refine gw_ev (T := gT0) 60 [14] gRt_f (gTO_0 _ _ _ ⟨Nat.le_of_ble_eq_true rfl, Nat.le_of_ble_eq_true rfl⟩) ?_
  simp only [vc_i, vc_l, vc_r, vc_n, Nat.succ_ne_self, gSd_s, gEd_s, gEd_0, gEd_B, gB_t, gB_f, gGo_c, gGo_n, gAll_n, gAll_c, gwK_s, gCT, gCF, gSet, gSet2, gKill, gTw, gTs, gLs, List.map_cons, List.map_nil, fv0, fv1, fv2, fv3, List.getElem?_cons_zero, List.getElem?_cons_succ, List.set_cons_zero, List.set_cons_succ, List.not_mem_nil, List.mem_cons, Option.toList_some, Option.toList_none, List.cons_append, List.nil_append, if_false, if_true, true_and, and_true, forall_const, true_implies, false_implies, or_false, false_or, not_true_eq_false, not_false_eq_true, and_false, false_and, implies_true, Nat.reduceAdd, Nat.reduceEqDiff, Nat.reduceLT, ↓reduceIte, cls_LW_law, st_new, st_dup, st_aload_n, st_iconst, st_invokestatic, st_invokespecial, st_astore_n, st_newarray, st_istore, st_iinc, st_goto, st_ireturn, (show mLW_law.2.2.1 = 7 from rfl), tn_LW_39, (show gT0 63 = none from rfl), dLW_law_0, dLW_law_3, dLW_law_4, dLW_law_5, ic_0, dLW_law_6, dLW_law_9, dLW_law_10, ic_1, dLW_law_11, dLW_law_14, dLW_law_17, dLW_law_18, dLW_law_21, dLW_law_22, dLW_law_23, dLW_law_24, dLW_law_27, dLW_law_28, dLW_law_29, dLW_law_32, dLW_law_35, dLW_law_36, dLW_law_37, dLW_law_39, dLW_law_40, ic_2, dLW_law_41, dLW_law_897, ic_7, dLW_law_900, tg_900_m857, tz_900_m857, dLW_law_903, dLW_law_904]
  refine gw_callI (as := [.int x0, .int y0]) (b := o) (r := [.ref o]) (rm := grN 4 31 1306) dLW_law_14 (c_RM_init l g cL cI hcL hcI o x0 y0 h1 ko) wc_RM_init rfl rfl wl_LW_45 wi_RM_init wn_RM (by show _ ∧ _ ∧ _ = some 2; decide +kernel) ⟨by decide, by decide⟩ (Nat.le_of_ble_eq_true rfl) ⟨Nat.le_of_ble_eq_true rfl, Nat.le_of_ble_eq_true rfl⟩ ?_
  intro v h2 hv
  obtain ⟨rfl, M, hM0, ⟨aM, nM, fM⟩, hRM⟩ := hv
  have zM : ∀ i, i < 32 → gsz g ≤ M i := fun i hi => by
    by_cases e : i = 0
    · rw [e, hM0]; exact zo
    · exact (nM i (by omega) hi).2
  have hs2 : h2 (gsb g) = none := (fM _ (fun i hi e => by have := zM i hi; omega)).trans hs1
  refine gw_ev (T := gT0) 60 [18] gRt_f (gTO_0 _ _ _ ⟨Nat.le_of_ble_eq_true rfl, Nat.le_of_ble_eq_true rfl⟩) ?_
  simp only [vc_i, vc_l, vc_r, vc_n, Nat.succ_ne_self, gSd_s, gEd_s, gEd_0, gEd_B, gB_t, gB_f, gGo_c, gGo_n, gAll_n, gAll_c, gwK_s, gCT, gCF, gSet, gSet2, gKill, gTw, gTs, gLs, List.map_cons, List.map_nil, fv0, fv1, fv2, fv3, List.getElem?_cons_zero, List.getElem?_cons_succ, List.set_cons_zero, List.set_cons_succ, List.not_mem_nil, List.mem_cons, Option.toList_some, Option.toList_none, List.cons_append, List.nil_append, if_false, if_true, true_and, and_true, forall_const, true_implies, false_implies, or_false, false_or, not_true_eq_false, not_false_eq_true, and_false, false_and, implies_true, Nat.reduceAdd, Nat.reduceEqDiff, Nat.reduceLT, ↓reduceIte, cls_LW_law, st_new, st_dup, st_aload_n, st_iconst, st_invokestatic, st_invokespecial, st_astore_n, st_newarray, st_istore, st_iinc, st_goto, st_ireturn, (show mLW_law.2.2.1 = 7 from rfl), tn_LW_39, (show gT0 63 = none from rfl), dLW_law_0, dLW_law_3, dLW_law_4, dLW_law_5, ic_0, dLW_law_6, dLW_law_9, dLW_law_10, ic_1, dLW_law_11, dLW_law_14, dLW_law_17, dLW_law_18, dLW_law_21, dLW_law_22, dLW_law_23, dLW_law_24, dLW_law_27, dLW_law_28, dLW_law_29, dLW_law_32, dLW_law_35, dLW_law_36, dLW_law_37, dLW_law_39, dLW_law_40, ic_2, dLW_law_41, dLW_law_897, ic_7, dLW_law_900, tg_900_m857, tz_900_m857, dLW_law_903, dLW_law_904]
  refine gw_new (fs := fRF9) dLW_law_18 (show gCL[6]? = some ("RiddleMillModel", TRF, 33) from rfl) wk_LW_48 wx_RF wn_RF df_RF (Nat.le_of_ble_eq_true rfl) (Nat.le_of_ble_eq_true rfl) fun o2 ho2 zo2 => ?_
  have so2 : gsb g ≠ o2 := by omega
  have mo2 : ∀ i, i < 32 → M i ≠ o2 := fun i hi e => isRM_some hRM i hi (by rw [e]; exact ho2)
  obtain ⟨h3, eh3⟩ : ∃ h3, h3 = gup h2 o2 (.inr (6, fRF9)) := ⟨_, rfl⟩
  rw [← eh3]
  have ko3 : h3 o2 = some (.inr (6, fRF9)) := by rw [eh3]; exact gup_s _ _ _
  have hs3 : h3 (gsb g) = none := by rw [eh3, gup_n _ _ so2]; exact hs2
  have f3 : ∀ q, q ≠ o2 → h3 q = h2 q := fun q hq => by rw [eh3, gup_n _ _ hq]
  have hRM3 : isRM cL cI (noN x0) (koN (noN x0) y0) M rm9 h3 := isRM_fr (fun j hj => f3 _ (mo2 j hj)) hRM
  refine gw_ev (T := gT0) 60 [24] gRt_f (gTO_0 _ _ _ ⟨Nat.le_of_ble_eq_true rfl, Nat.le_of_ble_eq_true rfl⟩) ?_
  simp only [vc_i, vc_l, vc_r, vc_n, Nat.succ_ne_self, gSd_s, gEd_s, gEd_0, gEd_B, gB_t, gB_f, gGo_c, gGo_n, gAll_n, gAll_c, gwK_s, gCT, gCF, gSet, gSet2, gKill, gTw, gTs, gLs, List.map_cons, List.map_nil, fv0, fv1, fv2, fv3, List.getElem?_cons_zero, List.getElem?_cons_succ, List.set_cons_zero, List.set_cons_succ, List.not_mem_nil, List.mem_cons, Option.toList_some, Option.toList_none, List.cons_append, List.nil_append, if_false, if_true, true_and, and_true, forall_const, true_implies, false_implies, or_false, false_or, not_true_eq_false, not_false_eq_true, and_false, false_and, implies_true, Nat.reduceAdd, Nat.reduceEqDiff, Nat.reduceLT, ↓reduceIte, cls_LW_law, st_new, st_dup, st_aload_n, st_iconst, st_invokestatic, st_invokespecial, st_astore_n, st_newarray, st_istore, st_iinc, st_goto, st_ireturn, (show mLW_law.2.2.1 = 7 from rfl), tn_LW_39, (show gT0 63 = none from rfl), dLW_law_0, dLW_law_3, dLW_law_4, dLW_law_5, ic_0, dLW_law_6, dLW_law_9, dLW_law_10, ic_1, dLW_law_11, dLW_law_14, dLW_law_17, dLW_law_18, dLW_law_21, dLW_law_22, dLW_law_23, dLW_law_24, dLW_law_27, dLW_law_28, dLW_law_29, dLW_law_32, dLW_law_35, dLW_law_36, dLW_law_37, dLW_law_39, dLW_law_40, ic_2, dLW_law_41, dLW_law_897, ic_7, dLW_law_900, tg_900_m857, tz_900_m857, dLW_law_903, dLW_law_904]
  refine gw_callS (as := [.ref (gsb g), .int (nI 0)]) (r := [.ref o2, .ref o2]) (rm := gr 0) dLW_law_24 (C0 h3 hs3) wc_LW_cell wl_LW_39 wt_LW_cell wn_LW (by show _ ∧ _ ∧ _ = some 2; decide +kernel) ⟨by decide, by decide⟩ (Nat.le_of_ble_eq_true rfl) ⟨Nat.le_of_ble_eq_true rfl, Nat.le_of_ble_eq_true rfl⟩ ?_
  intro v h' hv
  obtain ⟨rfl, e'⟩ := hv
  rw [e']
  refine gw_ev (T := gT0) 60 [29] gRt_f (gTO_0 _ _ _ ⟨Nat.le_of_ble_eq_true rfl, Nat.le_of_ble_eq_true rfl⟩) ?_
  simp only [vc_i, vc_l, vc_r, vc_n, Nat.succ_ne_self, gSd_s, gEd_s, gEd_0, gEd_B, gB_t, gB_f, gGo_c, gGo_n, gAll_n, gAll_c, gwK_s, gCT, gCF, gSet, gSet2, gKill, gTw, gTs, gLs, List.map_cons, List.map_nil, fv0, fv1, fv2, fv3, List.getElem?_cons_zero, List.getElem?_cons_succ, List.set_cons_zero, List.set_cons_succ, List.not_mem_nil, List.mem_cons, Option.toList_some, Option.toList_none, List.cons_append, List.nil_append, if_false, if_true, true_and, and_true, forall_const, true_implies, false_implies, or_false, false_or, not_true_eq_false, not_false_eq_true, and_false, false_and, implies_true, Nat.reduceAdd, Nat.reduceEqDiff, Nat.reduceLT, ↓reduceIte, cls_LW_law, st_new, st_dup, st_aload_n, st_iconst, st_invokestatic, st_invokespecial, st_astore_n, st_newarray, st_istore, st_iinc, st_goto, st_ireturn, (show mLW_law.2.2.1 = 7 from rfl), tn_LW_39, (show gT0 63 = none from rfl), dLW_law_0, dLW_law_3, dLW_law_4, dLW_law_5, ic_0, dLW_law_6, dLW_law_9, dLW_law_10, ic_1, dLW_law_11, dLW_law_14, dLW_law_17, dLW_law_18, dLW_law_21, dLW_law_22, dLW_law_23, dLW_law_24, dLW_law_27, dLW_law_28, dLW_law_29, dLW_law_32, dLW_law_35, dLW_law_36, dLW_law_37, dLW_law_39, dLW_law_40, ic_2, dLW_law_41, dLW_law_897, ic_7, dLW_law_900, tg_900_m857, tz_900_m857, dLW_law_903, dLW_law_904]
  refine gw_callS (as := [.ref (gsb g), .int (nI 1)]) (r := [.int x0, .ref o2, .ref o2]) (rm := gr 0) dLW_law_29 (C1 h3 hs3) wc_LW_cell wl_LW_39 wt_LW_cell wn_LW (by show _ ∧ _ ∧ _ = some 2; decide +kernel) ⟨by decide, by decide⟩ (Nat.le_of_ble_eq_true rfl) ⟨Nat.le_of_ble_eq_true rfl, Nat.le_of_ble_eq_true rfl⟩ ?_
  intro v h' hv
  obtain ⟨rfl, e'⟩ := hv
  rw [e']
  refine gw_ev (T := gT0) 60 [32] gRt_f (gTO_0 _ _ _ ⟨Nat.le_of_ble_eq_true rfl, Nat.le_of_ble_eq_true rfl⟩) ?_
  simp only [vc_i, vc_l, vc_r, vc_n, Nat.succ_ne_self, gSd_s, gEd_s, gEd_0, gEd_B, gB_t, gB_f, gGo_c, gGo_n, gAll_n, gAll_c, gwK_s, gCT, gCF, gSet, gSet2, gKill, gTw, gTs, gLs, List.map_cons, List.map_nil, fv0, fv1, fv2, fv3, List.getElem?_cons_zero, List.getElem?_cons_succ, List.set_cons_zero, List.set_cons_succ, List.not_mem_nil, List.mem_cons, Option.toList_some, Option.toList_none, List.cons_append, List.nil_append, if_false, if_true, true_and, and_true, forall_const, true_implies, false_implies, or_false, false_or, not_true_eq_false, not_false_eq_true, and_false, false_and, implies_true, Nat.reduceAdd, Nat.reduceEqDiff, Nat.reduceLT, ↓reduceIte, cls_LW_law, st_new, st_dup, st_aload_n, st_iconst, st_invokestatic, st_invokespecial, st_astore_n, st_newarray, st_istore, st_iinc, st_goto, st_ireturn, (show mLW_law.2.2.1 = 7 from rfl), tn_LW_39, (show gT0 63 = none from rfl), dLW_law_0, dLW_law_3, dLW_law_4, dLW_law_5, ic_0, dLW_law_6, dLW_law_9, dLW_law_10, ic_1, dLW_law_11, dLW_law_14, dLW_law_17, dLW_law_18, dLW_law_21, dLW_law_22, dLW_law_23, dLW_law_24, dLW_law_27, dLW_law_28, dLW_law_29, dLW_law_32, dLW_law_35, dLW_law_36, dLW_law_37, dLW_law_39, dLW_law_40, ic_2, dLW_law_41, dLW_law_897, ic_7, dLW_law_900, tg_900_m857, tz_900_m857, dLW_law_903, dLW_law_904]
  refine gw_callI (as := [.int x0, .int y0]) (b := o2) (r := [.ref o2]) (rm := grN 1 13 7987) dLW_law_32 (c_RF_init l g cB cL cI hcB hcL hcI o2 x0 y0 h3 ko3) wc_RF_init rfl rfl wl_LW_50 wi_RF_init wn_RF (by show _ ∧ _ ∧ _ = some 2; decide +kernel) ⟨by decide, by decide⟩ (Nat.le_of_ble_eq_true rfl) ⟨Nat.le_of_ble_eq_true rfl, Nat.le_of_ble_eq_true rfl⟩ ?_
  intro v h4 hv
  obtain ⟨rfl, W, hW0, ⟨aW, nW, fW⟩, D, od, wd, hod, hD, hD0, hwd, hRF⟩ := hv
  have hNK := okNK_new x0 y0
  generalize noN x0 = N at *
  generalize koN N y0 = K at *
  have zW : ∀ j, j < 14 → gsz g ≤ W j := fun i hi => by
    by_cases e : i = 0
    · rw [e, hW0]; exact zo2
    · exact (nW i (by omega) hi).2
  have xMW : ∀ i, i < 32 → ∀ j, j < 14 → M i ≠ W j := fun i hi j hj e => by
    by_cases e0 : j = 0
    · rw [e0, hW0] at e; exact mo2 i hi e
    · exact isRM_some hRM3 i hi (by rw [e]; exact (nW j (by omega) hj).1)
  have hRM4 : isRM cL cI N K M rm9 h4 := isRM_fr (fun j hj => fW _ (fun i hi => xMW j hj i hi)) hRM3
  refine gw_ev (T := gT0) 60 [37] gRt_f (gTO_0 _ _ _ ⟨Nat.le_of_ble_eq_true rfl, Nat.le_of_ble_eq_true rfl⟩) ?_
  simp only [vc_i, vc_l, vc_r, vc_n, Nat.succ_ne_self, gSd_s, gEd_s, gEd_0, gEd_B, gB_t, gB_f, gGo_c, gGo_n, gAll_n, gAll_c, gwK_s, gCT, gCF, gSet, gSet2, gKill, gTw, gTs, gLs, List.map_cons, List.map_nil, fv0, fv1, fv2, fv3, List.getElem?_cons_zero, List.getElem?_cons_succ, List.set_cons_zero, List.set_cons_succ, List.not_mem_nil, List.mem_cons, Option.toList_some, Option.toList_none, List.cons_append, List.nil_append, if_false, if_true, true_and, and_true, forall_const, true_implies, false_implies, or_false, false_or, not_true_eq_false, not_false_eq_true, and_false, false_and, implies_true, Nat.reduceAdd, Nat.reduceEqDiff, Nat.reduceLT, ↓reduceIte, cls_LW_law, st_new, st_dup, st_aload_n, st_iconst, st_invokestatic, st_invokespecial, st_astore_n, st_newarray, st_istore, st_iinc, st_goto, st_ireturn, (show mLW_law.2.2.1 = 7 from rfl), tn_LW_39, (show gT0 63 = none from rfl), dLW_law_0, dLW_law_3, dLW_law_4, dLW_law_5, ic_0, dLW_law_6, dLW_law_9, dLW_law_10, ic_1, dLW_law_11, dLW_law_14, dLW_law_17, dLW_law_18, dLW_law_21, dLW_law_22, dLW_law_23, dLW_law_24, dLW_law_27, dLW_law_28, dLW_law_29, dLW_law_32, dLW_law_35, dLW_law_36, dLW_law_37, dLW_law_39, dLW_law_40, ic_2, dLW_law_41, dLW_law_897, ic_7, dLW_law_900, tg_900_m857, tz_900_m857, dLW_law_903, dLW_law_904]
  refine gw_newa (N := 1) (a0 := (1, .inr (.inl (fun _ => 0)))) dLW_law_37 rfl (fun C z => by cases z) hcL wA_long (fun cA => rfl) (by decide) (by decide) (by decide) (Nat.le_of_ble_eq_true rfl) (Nat.le_of_ble_eq_true rfl) fun u hu zu => ?_
  have xuM : ∀ i, i < 32 → u ≠ M i := fun i hi e => isRM_some hRM4 i hi (by rw [← e]; exact hu)
  have xuW : ∀ j, j < 14 → u ≠ W j := fun j hj e => isRF_some hRF j hj (by rw [← e]; exact hu)
  obtain ⟨h5, eh5⟩ : ∃ h5, h5 = gup h4 u (.inl (cL, 1, .inr (.inl (fun _ => 0)))) := ⟨_, rfl⟩
  rw [← eh5]
  have f5 : ∀ q, q ≠ u → h5 q = h4 q := fun q hq => by rw [eh5, gup_n _ _ hq]
  have ho := ords_new hNK hod hD0
  have hI : linv cB cL cI N K D wd od M W u rm9 ra9 rn9 ri9 (fun _ => 0) h5 := by
    refine ⟨isRM_fr (fun j hj => f5 _ (Ne.symm (xuM j hj))) hRM4, isRF_fr (fun j hj => f5 _ (Ne.symm (xuW j hj))) hRF, by rw [eh5]; exact gup_s _ _ _, fun q q1 q2 q3 => ?_⟩
    rw [f5 q q3, fW q q2, f3 q (by rw [← hW0]; exact q2 0 (by decide)), fM q q1]
    exact f1 q (by rw [← hM0]; exact q1 0 (by decide))
  have hG : lwG l g cB cL cI N K D wd od M W u := ⟨htl, ⟨hcB, hcL, hcI⟩, ⟨hNK, hD, ho, hwd⟩, ⟨aM, aW, xMW, xuM, xuW, zM, zW, zu⟩, ⟨gW, gF, gS⟩, hL, nSW, nFW⟩
  have hgo := lw_loop hG hE 512 2 47 9335 rm9 ra9 rn9 ri9 (fun _ => 0) h5 hI (rel_new ho) (by omega) (by decide) (Nat.le_of_ble_eq_true rfl) (Nat.le_of_ble_eq_true rfl)
  rw [← hM0, ← hW0]
  refine gw_ev (T := gT0) 60 [43] gRt_f (gTO_0 _ _ _ ⟨Nat.le_of_ble_eq_true rfl, Nat.le_of_ble_eq_true rfl⟩) ?_
  simp only [vc_i, vc_l, vc_r, vc_n, Nat.succ_ne_self, gSd_s, gEd_s, gEd_0, gEd_B, gB_t, gB_f, gGo_c, gGo_n, gAll_n, gAll_c, gwK_s, gCT, gCF, gSet, gSet2, gKill, gTw, gTs, gLs, List.map_cons, List.map_nil, fv0, fv1, fv2, fv3, List.getElem?_cons_zero, List.getElem?_cons_succ, List.set_cons_zero, List.set_cons_succ, List.not_mem_nil, List.mem_cons, Option.toList_some, Option.toList_none, List.cons_append, List.nil_append, if_false, if_true, true_and, and_true, forall_const, true_implies, false_implies, or_false, false_or, not_true_eq_false, not_false_eq_true, and_false, false_and, implies_true, Nat.reduceAdd, Nat.reduceEqDiff, Nat.reduceLT, ↓reduceIte, cls_LW_law, st_new, st_dup, st_aload_n, st_iconst, st_invokestatic, st_invokespecial, st_astore_n, st_newarray, st_istore, st_iinc, st_goto, st_ireturn, (show mLW_law.2.2.1 = 7 from rfl), tn_LW_39, (show gT0 63 = none from rfl), dLW_law_0, dLW_law_3, dLW_law_4, dLW_law_5, ic_0, dLW_law_6, dLW_law_9, dLW_law_10, ic_1, dLW_law_11, dLW_law_14, dLW_law_17, dLW_law_18, dLW_law_21, dLW_law_22, dLW_law_23, dLW_law_24, dLW_law_27, dLW_law_28, dLW_law_29, dLW_law_32, dLW_law_35, dLW_law_36, dLW_law_37, dLW_law_39, dLW_law_40, ic_2, dLW_law_41, dLW_law_897, ic_7, dLW_law_900, tg_900_m857, tz_900_m857, dLW_law_903, dLW_law_904]
  exact hgo
