-- needs 10 11 12 13 14 15 16 17 18 18d 21 30 31 40 50 53 60
set_option maxRecDepth 100000 in
theorem c_RM_isThing (l : Launch) (g : gG) (o : Nat) (fs : List Value) (n s x : Int32) (h : gH) (ho : h o = some (.inr (5, fs))) (f0 : fs[0]? = some (.int n)) (f1 : fs[1]? = some (.int s)) : gC l g mRM_isThing (gr 0) [.ref o, .int x] h (fun r h' => r = some (.int (bI (thingB n s x))) ∧ h' = h) := by
  have z10 : ¬ (10 : Int32) = 0 := by decide
  refine gC_of (lv0 := [some (.ref o), some (.int x)]) (by decide +kernel) (Nat.le_of_ble_eq_true rfl) (fun q hq => hq) ⟨rfl, rfl⟩ ?_
  unfold thingB
  by_cases h1 : x < 10
  · refine gw_ev (T := gT0) 60 [] gRt_m (gTO_0 _ _ _ ⟨Nat.le_refl _, Nat.le_refl _⟩) ?_
    simp only [vc_i, vc_l, vc_r, vc_n, Nat.succ_ne_self, gSd_s, gEd_s, gEd_0, gEd_B, gB_t, gB_f, gGo_c, gGo_n, gAll_n, gAll_c, gwK_s, gCT, gCF, gSet, gSet2, gKill, gTw, gTs, gLs, List.map_cons, List.map_nil, fv0, fv1, fv2, fv3, List.getElem?_cons_zero, List.getElem?_cons_succ, List.set_cons_zero, List.set_cons_succ, List.not_mem_nil, List.mem_cons, Option.toList_some, Option.toList_none, List.cons_append, List.nil_append, if_false, if_true, true_and, and_true, forall_const, true_implies, false_implies, or_false, false_or, not_true_eq_false, not_false_eq_true, and_false, false_and, implies_true, Nat.reduceAdd, Nat.reduceEqDiff, Nat.reduceLT, ↓reduceIte, cls_RM_isThing, st_iload_n, st_bipush, st_if_icmp, st_idiv, st_aload_n, st_getfield, st_irem, st_iconst, st_goto, st_ireturn, (show mRM_isThing.2.2.1 = 2 from rfl), gF_RM_22, gF_RM_16, dRM_isThing_0, dRM_isThing_1, bi_10, dRM_isThing_3, tg_3_29, tz_3_29, dRM_isThing_6, dRM_isThing_7, dRM_isThing_9, dRM_isThing_10, dRM_isThing_11, dRM_isThing_14, tg_14_18, tz_14_18, dRM_isThing_17, dRM_isThing_18, dRM_isThing_20, dRM_isThing_21, dRM_isThing_22, dRM_isThing_25, tg_25_7, tz_25_7, dRM_isThing_28, ic_1, dRM_isThing_29, tg_29_4, tz_29_4, dRM_isThing_32, ic_0, dRM_isThing_33, h1]
    exact ⟨rfl, by simp only [h1, not_true_eq_false, false_and, decide_false]; rfl⟩
  · by_cases h2 : s < x / 10
    · have e2 : ¬ x / 10 ≤ s := Int32.not_le.mpr h2
      refine gw_ev (T := gT0) 60 [] gRt_m (gTO_0 _ _ _ ⟨Nat.le_refl _, Nat.le_refl _⟩) ?_
      simp only [vc_i, vc_l, vc_r, vc_n, Nat.succ_ne_self, gSd_s, gEd_s, gEd_0, gEd_B, gB_t, gB_f, gGo_c, gGo_n, gAll_n, gAll_c, gwK_s, gCT, gCF, gSet, gSet2, gKill, gTw, gTs, gLs, List.map_cons, List.map_nil, fv0, fv1, fv2, fv3, List.getElem?_cons_zero, List.getElem?_cons_succ, List.set_cons_zero, List.set_cons_succ, List.not_mem_nil, List.mem_cons, Option.toList_some, Option.toList_none, List.cons_append, List.nil_append, if_false, if_true, true_and, and_true, forall_const, true_implies, false_implies, or_false, false_or, not_true_eq_false, not_false_eq_true, and_false, false_and, implies_true, Nat.reduceAdd, Nat.reduceEqDiff, Nat.reduceLT, ↓reduceIte, cls_RM_isThing, st_iload_n, st_bipush, st_if_icmp, st_idiv, st_aload_n, st_getfield, st_irem, st_iconst, st_goto, st_ireturn, (show mRM_isThing.2.2.1 = 2 from rfl), gF_RM_22, gF_RM_16, dRM_isThing_0, dRM_isThing_1, bi_10, dRM_isThing_3, tg_3_29, tz_3_29, dRM_isThing_6, dRM_isThing_7, dRM_isThing_9, dRM_isThing_10, dRM_isThing_11, dRM_isThing_14, tg_14_18, tz_14_18, dRM_isThing_17, dRM_isThing_18, dRM_isThing_20, dRM_isThing_21, dRM_isThing_22, dRM_isThing_25, tg_25_7, tz_25_7, dRM_isThing_28, ic_1, dRM_isThing_29, tg_29_4, tz_29_4, dRM_isThing_32, ic_0, dRM_isThing_33, h1, ho, f1, h2, z10]
      exact ⟨rfl, by simp only [e2, false_and, and_false, decide_false]; rfl⟩
    · have e2 : x / 10 ≤ s := Int32.not_lt.mp h2
      by_cases h3 : n ≤ x - x / 10 * 10
      · have e3 : ¬ x - x / 10 * 10 < n := Int32.not_lt.mpr h3
        refine gw_ev (T := gT0) 60 [] gRt_m (gTO_0 _ _ _ ⟨Nat.le_refl _, Nat.le_refl _⟩) ?_
        simp only [vc_i, vc_l, vc_r, vc_n, Nat.succ_ne_self, gSd_s, gEd_s, gEd_0, gEd_B, gB_t, gB_f, gGo_c, gGo_n, gAll_n, gAll_c, gwK_s, gCT, gCF, gSet, gSet2, gKill, gTw, gTs, gLs, List.map_cons, List.map_nil, fv0, fv1, fv2, fv3, List.getElem?_cons_zero, List.getElem?_cons_succ, List.set_cons_zero, List.set_cons_succ, List.not_mem_nil, List.mem_cons, Option.toList_some, Option.toList_none, List.cons_append, List.nil_append, if_false, if_true, true_and, and_true, forall_const, true_implies, false_implies, or_false, false_or, not_true_eq_false, not_false_eq_true, and_false, false_and, implies_true, Nat.reduceAdd, Nat.reduceEqDiff, Nat.reduceLT, ↓reduceIte, cls_RM_isThing, st_iload_n, st_bipush, st_if_icmp, st_idiv, st_aload_n, st_getfield, st_irem, st_iconst, st_goto, st_ireturn, (show mRM_isThing.2.2.1 = 2 from rfl), gF_RM_22, gF_RM_16, dRM_isThing_0, dRM_isThing_1, bi_10, dRM_isThing_3, tg_3_29, tz_3_29, dRM_isThing_6, dRM_isThing_7, dRM_isThing_9, dRM_isThing_10, dRM_isThing_11, dRM_isThing_14, tg_14_18, tz_14_18, dRM_isThing_17, dRM_isThing_18, dRM_isThing_20, dRM_isThing_21, dRM_isThing_22, dRM_isThing_25, tg_25_7, tz_25_7, dRM_isThing_28, ic_1, dRM_isThing_29, tg_29_4, tz_29_4, dRM_isThing_32, ic_0, dRM_isThing_33, h1, ho, f0, f1, h2, h3, z10]
        exact ⟨rfl, by simp only [e3, and_false, decide_false]; rfl⟩
      · have e3 : x - x / 10 * 10 < n := Int32.not_le.mp h3
        refine gw_ev (T := gT0) 60 [] gRt_m (gTO_0 _ _ _ ⟨Nat.le_refl _, Nat.le_refl _⟩) ?_
        simp only [vc_i, vc_l, vc_r, vc_n, Nat.succ_ne_self, gSd_s, gEd_s, gEd_0, gEd_B, gB_t, gB_f, gGo_c, gGo_n, gAll_n, gAll_c, gwK_s, gCT, gCF, gSet, gSet2, gKill, gTw, gTs, gLs, List.map_cons, List.map_nil, fv0, fv1, fv2, fv3, List.getElem?_cons_zero, List.getElem?_cons_succ, List.set_cons_zero, List.set_cons_succ, List.not_mem_nil, List.mem_cons, Option.toList_some, Option.toList_none, List.cons_append, List.nil_append, if_false, if_true, true_and, and_true, forall_const, true_implies, false_implies, or_false, false_or, not_true_eq_false, not_false_eq_true, and_false, false_and, implies_true, Nat.reduceAdd, Nat.reduceEqDiff, Nat.reduceLT, ↓reduceIte, cls_RM_isThing, st_iload_n, st_bipush, st_if_icmp, st_idiv, st_aload_n, st_getfield, st_irem, st_iconst, st_goto, st_ireturn, (show mRM_isThing.2.2.1 = 2 from rfl), gF_RM_22, gF_RM_16, dRM_isThing_0, dRM_isThing_1, bi_10, dRM_isThing_3, tg_3_29, tz_3_29, dRM_isThing_6, dRM_isThing_7, dRM_isThing_9, dRM_isThing_10, dRM_isThing_11, dRM_isThing_14, tg_14_18, tz_14_18, dRM_isThing_17, dRM_isThing_18, dRM_isThing_20, dRM_isThing_21, dRM_isThing_22, dRM_isThing_25, tg_25_7, tz_25_7, dRM_isThing_28, ic_1, dRM_isThing_29, tg_29_4, tz_29_4, dRM_isThing_32, ic_0, dRM_isThing_33, h1, ho, f0, f1, h2, h3, z10]
        exact ⟨rfl, by simp only [h1, e2, e3, not_false_eq_true, and_self, decide_true]; rfl⟩
def gp_RM_isThing : gPF := fun g st h => match st with
  | .int x :: .ref o :: r => match h o with
    | some (.inr (5, fs)) => match (fs[0]? : Option Value), (fs[1]? : Option Value) with
      | some (.int n), some (.int s) => some (gCs r ≤ 8, .int (bI (thingB n s x)) :: r, h)
      | _, _ => none
    | _ => none
  | _ => none
theorem e_RM_isThing : gEK 1 18 gp_RM_isThing := gE_V (d := 0) (ci := 5) mRM_isThing rfl rfl rfl wc_RM_isThing wi_RM_isThing ws_RM_isThing wn_RM (N := 1) (by decide +kernel) (by decide) (fun g st h P st2 h2 he hP => by
  unfold gp_RM_isThing at he
  split at he
  · rename_i x o r
    split at he
    · rename_i fs ho
      split at he
      · rename_i n s f0 f1
        cases he
        exact ⟨[.int x], r, o, fs, some (.int (bI (thingB n s x))), rfl, ho, rfl, hP, rfl, fun l => c_RM_isThing l g o fs n s x h ho f0 f1⟩
      · cases he
    · cases he
  · cases he)
def gT2m : gTB := gTu (gT2) 18 gp_RM_isThing
theorem kgT2m : gTK 2 gT2m := gTK_u (gTK_mono (by decide) kgT2) (gEK_mono (by decide) e_RM_isThing)
theorem gT2m_11 : gT2m 11 = some gp_CO_kind := rfl
theorem gT2m_12 : gT2m 12 = some gp_CO_x := rfl
theorem gT2m_13 : gT2m 13 = some gp_CO_y := rfl
theorem gT2m_14 : gT2m 14 = some gp_CO_z := rfl
theorem gT2m_15 : gT2m 15 = some gp_CO_d := rfl
theorem gT2m_16 : gT2m 16 = some gp_CO_speaker := rfl
theorem gT2m_73 : gT2m 73 = some gp_CO_of := rfl
theorem gT2m_39 : gT2m 39 = some gp_CO_thingsOf := rfl
theorem gT2m_66 : gT2m 66 = some gp_CO_leastD := rfl
theorem gT2m_67 : gT2m 67 = some gp_CO_greatestD := rfl
theorem gT2m_27 : gT2m 27 = some gp_CO_isSo := rfl
theorem gT2m_30 : gT2m 30 = some gp_CO_thingAt := rfl
theorem gT2m_24 : gT2m 24 = some gp_JI_bitCount := rfl
theorem gT2m_25 : gT2m 25 = some gp_WO_isMany := rfl
theorem gT2m_3 : gT2m 3 = some gp_JM_max := rfl
theorem gT2m_2 : gT2m 2 = some gp_JM_min := rfl
theorem gT2m_38 : gT2m 38 = some gp_CO_ruleOf := rfl
theorem gT2m_41 : gT2m 41 = some gp_CO_thingAfter := rfl
theorem gT2m_18 : gT2m 18 = some gp_RM_isThing := rfl
