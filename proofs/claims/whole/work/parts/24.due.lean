-- needs 10 11 12 13 14 15 16 17 18
def lastF (N c : Int32) : Int32 := if kindF c = 9 then maxF (maxF (xF c) (maxF (yF c) (zF c))) (10 * dF c + N - 1) else maxF (xF c) (maxF (yF c) (zF c))
def dueF (N c : Int32) : Int32 := (lastF N c / 10 - 1) * N + (lastF N c - lastF N c / 10 * 10)
set_option maxRecDepth 100000 in
theorem c_WO_dueAt (l : Launch) (g : gG) (o : Nat) (fs : List Value) (N c : Int32) (h : gH) (ho : h o = some (.inr (4, fs))) (h0 : fs[0]? = some (.int N)) : gC l g mWO_dueAt (gr 1) [.ref o, .int c] h (fun r h' => r = some (.int (dueF N c)) ∧ h' = h) := by
  refine gC_of (lv0 := [some (.ref o), some (.int c), none]) (by decide +kernel) (Nat.le_of_ble_eq_true rfl) (fun q hq => hq) ⟨rfl, rfl⟩ ?_
  have z10 : ¬ (10 : Int32) = 0 := by decide
  by_cases hk : kindF c = 9
  · refine gw_ev (T := gT1) 60 [] gRt_m ⟨1, kgT1, gr_ge (by first | decide | omega), ⟨Nat.le_refl _, Nat.le_refl _⟩⟩ ?_
    simp only [vc_i, vc_l, vc_r, vc_n, Nat.succ_ne_self, gSd_s, gEd_s, gEd_0, gEd_B, gB_t, gB_f, gGo_c, gGo_n, gAll_n, gAll_c, gwK_s, gCT, gCF, gSet, gSet2, gKill, gTw, gTs, gLs, List.map_cons, List.map_nil, fv0, fv1, fv2, fv3, List.getElem?_cons_zero, List.getElem?_cons_succ, List.set_cons_zero, List.set_cons_succ, List.not_mem_nil, List.mem_cons, Option.toList_some, Option.toList_none, List.cons_append, List.nil_append, if_false, if_true, true_and, and_true, forall_const, true_implies, false_implies, or_false, false_or, not_true_eq_false, not_false_eq_true, and_false, false_and, implies_true, Nat.reduceAdd, Nat.reduceEqDiff, Nat.reduceLT, ↓reduceIte, cls_WO_dueAt, st_iload_n, st_invokestatic, st_istore_n, st_bipush, st_if_icmp, st_imul, st_aload_n, st_getfield, st_iadd, st_iconst, st_isub, st_idiv, st_irem, st_ireturn, (show mWO_dueAt.2.2.1 = 3 from rfl), tn_WO_95, gT1_12, gp_CO_x, ms_12, gCs_n, gCs_c, Nat.reduceLeDiff, tn_WO_100, gT1_13, gp_CO_y, ms_13, tn_WO_103, gT1_14, gp_CO_z, ms_14, tn_WO_106, gT1_3, gp_JM_max, ms_3, tn_WO_109, gT1_11, gp_CO_kind, ms_11, tn_WO_112, gT1_15, gp_CO_d, ms_15, gF_WO_30, dWO_dueAt_0, dWO_dueAt_1, dWO_dueAt_4, dWO_dueAt_5, dWO_dueAt_8, dWO_dueAt_9, dWO_dueAt_12, dWO_dueAt_15, dWO_dueAt_18, dWO_dueAt_19, dWO_dueAt_20, dWO_dueAt_23, bi_9, dWO_dueAt_25, tg_25_22, tz_25_22, dWO_dueAt_28, dWO_dueAt_29, bi_10, dWO_dueAt_31, dWO_dueAt_32, dWO_dueAt_35, dWO_dueAt_36, dWO_dueAt_37, dWO_dueAt_40, dWO_dueAt_41, ic_1, dWO_dueAt_42, dWO_dueAt_43, dWO_dueAt_46, dWO_dueAt_47, dWO_dueAt_48, dWO_dueAt_50, dWO_dueAt_51, dWO_dueAt_52, dWO_dueAt_53, dWO_dueAt_54, dWO_dueAt_57, dWO_dueAt_58, dWO_dueAt_59, dWO_dueAt_61, dWO_dueAt_62, dWO_dueAt_63, ho, h0, hk, z10]
    refine ⟨rfl, ?_⟩
    unfold dueF lastF
    rw [if_pos hk]
  · refine gw_ev (T := gT1) 60 [] gRt_m ⟨1, kgT1, gr_ge (by first | decide | omega), ⟨Nat.le_refl _, Nat.le_refl _⟩⟩ ?_
    simp only [vc_i, vc_l, vc_r, vc_n, Nat.succ_ne_self, gSd_s, gEd_s, gEd_0, gEd_B, gB_t, gB_f, gGo_c, gGo_n, gAll_n, gAll_c, gwK_s, gCT, gCF, gSet, gSet2, gKill, gTw, gTs, gLs, List.map_cons, List.map_nil, fv0, fv1, fv2, fv3, List.getElem?_cons_zero, List.getElem?_cons_succ, List.set_cons_zero, List.set_cons_succ, List.not_mem_nil, List.mem_cons, Option.toList_some, Option.toList_none, List.cons_append, List.nil_append, if_false, if_true, true_and, and_true, forall_const, true_implies, false_implies, or_false, false_or, not_true_eq_false, not_false_eq_true, and_false, false_and, implies_true, Nat.reduceAdd, Nat.reduceEqDiff, Nat.reduceLT, ↓reduceIte, cls_WO_dueAt, st_iload_n, st_invokestatic, st_istore_n, st_bipush, st_if_icmp, st_imul, st_aload_n, st_getfield, st_iadd, st_iconst, st_isub, st_idiv, st_irem, st_ireturn, (show mWO_dueAt.2.2.1 = 3 from rfl), tn_WO_95, gT1_12, gp_CO_x, ms_12, gCs_n, gCs_c, Nat.reduceLeDiff, tn_WO_100, gT1_13, gp_CO_y, ms_13, tn_WO_103, gT1_14, gp_CO_z, ms_14, tn_WO_106, gT1_3, gp_JM_max, ms_3, tn_WO_109, gT1_11, gp_CO_kind, ms_11, tn_WO_112, gT1_15, gp_CO_d, ms_15, gF_WO_30, dWO_dueAt_0, dWO_dueAt_1, dWO_dueAt_4, dWO_dueAt_5, dWO_dueAt_8, dWO_dueAt_9, dWO_dueAt_12, dWO_dueAt_15, dWO_dueAt_18, dWO_dueAt_19, dWO_dueAt_20, dWO_dueAt_23, bi_9, dWO_dueAt_25, tg_25_22, tz_25_22, dWO_dueAt_28, dWO_dueAt_29, bi_10, dWO_dueAt_31, dWO_dueAt_32, dWO_dueAt_35, dWO_dueAt_36, dWO_dueAt_37, dWO_dueAt_40, dWO_dueAt_41, ic_1, dWO_dueAt_42, dWO_dueAt_43, dWO_dueAt_46, dWO_dueAt_47, dWO_dueAt_48, dWO_dueAt_50, dWO_dueAt_51, dWO_dueAt_52, dWO_dueAt_53, dWO_dueAt_54, dWO_dueAt_57, dWO_dueAt_58, dWO_dueAt_59, dWO_dueAt_61, dWO_dueAt_62, dWO_dueAt_63, ho, h0, hk, z10]
    refine ⟨rfl, ?_⟩
    unfold dueF lastF
    rw [if_neg hk]
def gp_WO_dueAt : gPF := fun g st h => match st with
  | .int c :: .ref o :: r => match h o with
    | some (.inr (4, fs)) => match (fs[0]? : Option Value) with
      | some (.int N) => some (gCs r ≤ 8, .int (dueF N c) :: r, h)
      | _ => none
    | _ => none
  | _ => none
theorem e_WO_dueAt : gEK 2 21 gp_WO_dueAt := gE_V (d := 1) (ci := 4) mWO_dueAt rfl rfl rfl wc_WO_dueAt wi_WO_dueAt ws_WO_dueAt wn_WO (N := 1) (by decide +kernel) (by decide) (fun g st h P st2 h2 he hP => by
  unfold gp_WO_dueAt at he
  split at he
  · rename_i c o r
    split at he
    · rename_i fs ho
      split at he
      · rename_i N f0
        cases he
        exact ⟨[.int c], r, o, fs, some (.int (dueF N c)), rfl, ho, rfl, hP, rfl, fun l => c_WO_dueAt l g o fs N c h ho f0⟩
      · cases he
    · cases he
  · cases he)
def gT2w : gTB := gTu (gT2) 21 gp_WO_dueAt
theorem kgT2w : gTK 2 gT2w := gTK_u (gTK_mono (by decide) kgT2) (gEK_mono (by decide) e_WO_dueAt)
theorem gT2w_11 : gT2w 11 = some gp_CO_kind := rfl
theorem gT2w_12 : gT2w 12 = some gp_CO_x := rfl
theorem gT2w_13 : gT2w 13 = some gp_CO_y := rfl
theorem gT2w_14 : gT2w 14 = some gp_CO_z := rfl
theorem gT2w_15 : gT2w 15 = some gp_CO_d := rfl
theorem gT2w_16 : gT2w 16 = some gp_CO_speaker := rfl
theorem gT2w_73 : gT2w 73 = some gp_CO_of := rfl
theorem gT2w_39 : gT2w 39 = some gp_CO_thingsOf := rfl
theorem gT2w_66 : gT2w 66 = some gp_CO_leastD := rfl
theorem gT2w_67 : gT2w 67 = some gp_CO_greatestD := rfl
theorem gT2w_27 : gT2w 27 = some gp_CO_isSo := rfl
theorem gT2w_30 : gT2w 30 = some gp_CO_thingAt := rfl
theorem gT2w_24 : gT2w 24 = some gp_JI_bitCount := rfl
theorem gT2w_25 : gT2w 25 = some gp_WO_isMany := rfl
theorem gT2w_3 : gT2w 3 = some gp_JM_max := rfl
theorem gT2w_2 : gT2w 2 = some gp_JM_min := rfl
theorem gT2w_38 : gT2w 38 = some gp_CO_ruleOf := rfl
theorem gT2w_41 : gT2w 41 = some gp_CO_thingAfter := rfl
theorem gT2w_21 : gT2w 21 = some gp_WO_dueAt := rfl
