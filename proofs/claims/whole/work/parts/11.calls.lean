def ruleF (k : Int32) : Int32 := if k = 9 then -1 else if thingsF k = 3 then 5 else 3
set_option maxRecDepth 100000 in
theorem c_CO_ruleOf (l : Launch) (g : gG) (k : Int32) (h : gH) : gC l g mCO_ruleOf (gr 1) [.int k] h (fun r h' => r = some (.int (ruleF k)) ∧ h' = h) := by
  refine gC_of (lv0 := [some (.int k)]) (by decide +kernel) (Nat.le_of_ble_eq_true rfl) (fun q hq => hq) ⟨rfl, rfl⟩ ?_
  refine gw_ev (T := gT0) 60 [] gRt_m (gTO_0 _ _ _ ⟨Nat.le_refl _, Nat.le_refl _⟩) ?_
  simp only [vc_i, vc_l, vc_r, vc_n, Nat.succ_ne_self, gSd_s, gEd_s, gEd_0, gGo_c, gGo_n, gAll_n, gAll_c, gwK_s, gStepD, gCT, gCF, gSet, gSet2, gKill, gTw, gTs, gLs, List.map_cons, List.map_nil, fv0, fv1, fv2, fv3, List.getElem?_cons_zero, List.getElem?_cons_succ, List.set_cons_zero, List.set_cons_succ, List.not_mem_nil, List.mem_cons, if_false, if_true, true_and, and_true, forall_const, true_implies, false_implies, or_false, false_or, Nat.reduceAdd, Nat.reduceEqDiff, Nat.reduceLT, reduceIte, (show mCO_ruleOf.2.2.1 = 1 from rfl), (show gTn mCO_ruleOf.1.cls 9 = some 39 from by decide +kernel), (show gT0 39 = none from rfl), dCO_ruleOf_0, dCO_ruleOf_1, bi_9, dCO_ruleOf_3, tg_3_5, tz_3_5, dCO_ruleOf_6, ic_m1, dCO_ruleOf_7, dCO_ruleOf_8, dCO_ruleOf_9, dCO_ruleOf_12, ic_3, dCO_ruleOf_13, tg_13_7, tz_13_7, dCO_ruleOf_16, ic_5, dCO_ruleOf_17, tg_17_4, tz_17_4, dCO_ruleOf_20, dCO_ruleOf_21]
  refine ⟨fun hk => ?_, fun hk => ⟨rfl, by simp [ruleF, hk]⟩⟩
  refine gw_callS (as := [.int k]) (r := []) dCO_ruleOf_9 (c_CO_thingsOf l g k h) wc_CO_thingsOf wl_CO_9 wt_CO_thingsOf wn_CO (by show _ ∧ _ ∧ _ = some 1; decide +kernel) (by decide +kernel) (by decide) ⟨Nat.le_refl _, Nat.le_refl _⟩ (fun v h' hv => ?_)
  obtain ⟨rfl, rfl⟩ := hv
  show gw l g mCO_ruleOf (gr 1) h' (gZm g h' 0 0 _) 0 0 12 [some (.int k)] [.int (thingsF k)] h'
  refine gw_ev (T := gT0) 60 [] gRt_m (gTO_0 _ _ _ ⟨Nat.le_refl _, Nat.le_refl _⟩) ?_
  simp only [vc_i, vc_l, vc_r, vc_n, Nat.succ_ne_self, gSd_s, gEd_s, gEd_0, gGo_c, gGo_n, gAll_n, gAll_c, gwK_s, gStepD, gCT, gCF, gSet, gSet2, gKill, gTw, gTs, gLs, List.map_cons, List.map_nil, fv0, fv1, fv2, fv3, List.getElem?_cons_zero, List.getElem?_cons_succ, List.set_cons_zero, List.set_cons_succ, List.not_mem_nil, List.mem_cons, if_false, if_true, true_and, and_true, forall_const, true_implies, false_implies, or_false, false_or, Nat.reduceAdd, Nat.reduceEqDiff, Nat.reduceLT, reduceIte, (show mCO_ruleOf.2.2.1 = 1 from rfl), (show gTn mCO_ruleOf.1.cls 9 = some 39 from by decide +kernel), (show gT0 39 = none from rfl), dCO_ruleOf_0, dCO_ruleOf_1, bi_9, dCO_ruleOf_3, tg_3_5, tz_3_5, dCO_ruleOf_6, ic_m1, dCO_ruleOf_7, dCO_ruleOf_8, dCO_ruleOf_9, dCO_ruleOf_12, ic_3, dCO_ruleOf_13, tg_13_7, tz_13_7, dCO_ruleOf_16, ic_5, dCO_ruleOf_17, tg_17_4, tz_17_4, dCO_ruleOf_20, dCO_ruleOf_21]
  unfold ruleF
  repeat' first | (refine ⟨?_, ?_⟩) | (intro _)
  all_goals first | rfl | (simp [*]; done)
set_option maxRecDepth 100000 in
theorem c_CL_has (l : Launch) (g : gG) (o c : Nat) (sz k : Int32) (h : gH) (ho : h o = some (.inr (0, [.ref c, .int sz]))) : gC l g mCL_has gr0 [.ref o, .int k] h (fun r h' => r = some (.int (bI (decide (¬ k < 0 ∧ k < sz)))) ∧ h' = h) := by
  refine gC_of (lv0 := [some (.ref o), some (.int k)]) (by decide +kernel) (Nat.le_of_ble_eq_true rfl) (fun q hq => hq) ⟨rfl, rfl⟩ ?_
  refine gw_ev (T := gT0) 60 [] gRt_m (gTO_0 _ _ _ ⟨Nat.le_refl _, Nat.le_refl _⟩) ?_
  simp only [vc_i, vc_l, vc_r, vc_n, Nat.succ_ne_self, gSd_s, gEd_s, gEd_0, gGo_c, gGo_n, gAll_n, gAll_c, gwK_s, gStepD, gCT, gCF, gSet, gSet2, gKill, gTw, gTs, gLs, List.map_cons, List.map_nil, fv0, fv1, fv2, fv3, List.getElem?_cons_zero, List.getElem?_cons_succ, List.set_cons_zero, List.set_cons_succ, List.not_mem_nil, List.mem_cons, if_false, if_true, true_and, and_true, forall_const, true_implies, false_implies, or_false, false_or, Nat.reduceAdd, Nat.reduceEqDiff, Nat.reduceLT, reduceIte, (show mCL_has.2.2.1 = 2 from rfl), (show gF mCL_has.1.cls 15 = some (0, 1) from gF_CL_15), dCL_has_0, dCL_has_1, tg_1_15, tz_1_15, dCL_has_4, dCL_has_5, dCL_has_6, dCL_has_9, tg_9_7, tz_9_7, dCL_has_12, ic_1, dCL_has_13, tg_13_4, tz_13_4, dCL_has_16, ic_0, dCL_has_17, ho]
  repeat' first | (refine ⟨?_, ?_⟩) | (intro _)
  all_goals first | rfl | (simp_all [bI, Int32.not_lt, Int32.not_le]; done)
