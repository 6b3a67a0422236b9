set_option maxRecDepth 100000 in
theorem c_CO_kind (l : Launch) (g : gG) (x : Int32) (h : gH) : gC l g mCO_kind gr0 [.int x] h (fun r h' => r = some (.int (x &&& 15)) ∧ h' = h) := by
  refine gC_of (lv0 := [some (.int x)]) (by decide +kernel) (Nat.le_of_ble_eq_true rfl) (fun q hq => hq) ⟨rfl, rfl⟩ ?_
  refine gw_ev (T := gT0) 60 [] gRt_m (gTO_0 _ _ _ ⟨Nat.le_refl _, Nat.le_refl _⟩) ?_
  simp only [vc_i, vc_l, vc_r, vc_n, Nat.succ_ne_self, gSd_s, gEd_s, gEd_0, gGo_c, gGo_n, gAll_n, gAll_c, gwK_s, gStepD, gCT, gCF, gSet, gSet2, gKill, gTw, gTs, gLs, List.map_cons, List.map_nil, fv0, fv1, fv2, fv3, List.getElem?_cons_zero, List.getElem?_cons_succ, List.set_cons_zero, List.set_cons_succ, List.not_mem_nil, List.mem_cons, Option.toList_some, Option.toList_none, List.cons_append, List.nil_append, if_false, if_true, true_and, and_true, forall_const, true_implies, false_implies, or_false, false_or, not_true_eq_false, not_false_eq_true, and_false, false_and, implies_true, Nat.reduceAdd, Nat.reduceEqDiff, Nat.reduceLT, reduceIte, cls_CO_kind, (show mCO_kind.2.2.1 = 1 from rfl), dCO_kind_0, dCO_kind_1, bi_15, dCO_kind_3, dCO_kind_4]
  exact rfl
set_option maxRecDepth 100000 in
theorem c_CO_x (l : Launch) (g : gG) (x : Int32) (h : gH) : gC l g mCO_x gr0 [.int x] h (fun r h' => r = some (.int ((x >>> (4 &&& 31)) &&& 63)) ∧ h' = h) := by
  refine gC_of (lv0 := [some (.int x)]) (by decide +kernel) (Nat.le_of_ble_eq_true rfl) (fun q hq => hq) ⟨rfl, rfl⟩ ?_
  refine gw_ev (T := gT0) 60 [] gRt_m (gTO_0 _ _ _ ⟨Nat.le_refl _, Nat.le_refl _⟩) ?_
  simp only [vc_i, vc_l, vc_r, vc_n, Nat.succ_ne_self, gSd_s, gEd_s, gEd_0, gGo_c, gGo_n, gAll_n, gAll_c, gwK_s, gStepD, gCT, gCF, gSet, gSet2, gKill, gTw, gTs, gLs, List.map_cons, List.map_nil, fv0, fv1, fv2, fv3, List.getElem?_cons_zero, List.getElem?_cons_succ, List.set_cons_zero, List.set_cons_succ, List.not_mem_nil, List.mem_cons, Option.toList_some, Option.toList_none, List.cons_append, List.nil_append, if_false, if_true, true_and, and_true, forall_const, true_implies, false_implies, or_false, false_or, not_true_eq_false, not_false_eq_true, and_false, false_and, implies_true, Nat.reduceAdd, Nat.reduceEqDiff, Nat.reduceLT, reduceIte, cls_CO_x, (show mCO_x.2.2.1 = 1 from rfl), dCO_x_0, dCO_x_1, ic_4, dCO_x_2, dCO_x_3, bi_63, dCO_x_5, dCO_x_6]
  exact rfl
set_option maxRecDepth 100000 in
theorem c_CO_y (l : Launch) (g : gG) (x : Int32) (h : gH) : gC l g mCO_y gr0 [.int x] h (fun r h' => r = some (.int ((x >>> (10 &&& 31)) &&& 63)) ∧ h' = h) := by
  refine gC_of (lv0 := [some (.int x)]) (by decide +kernel) (Nat.le_of_ble_eq_true rfl) (fun q hq => hq) ⟨rfl, rfl⟩ ?_
  refine gw_ev (T := gT0) 60 [] gRt_m (gTO_0 _ _ _ ⟨Nat.le_refl _, Nat.le_refl _⟩) ?_
  simp only [vc_i, vc_l, vc_r, vc_n, Nat.succ_ne_self, gSd_s, gEd_s, gEd_0, gGo_c, gGo_n, gAll_n, gAll_c, gwK_s, gStepD, gCT, gCF, gSet, gSet2, gKill, gTw, gTs, gLs, List.map_cons, List.map_nil, fv0, fv1, fv2, fv3, List.getElem?_cons_zero, List.getElem?_cons_succ, List.set_cons_zero, List.set_cons_succ, List.not_mem_nil, List.mem_cons, Option.toList_some, Option.toList_none, List.cons_append, List.nil_append, if_false, if_true, true_and, and_true, forall_const, true_implies, false_implies, or_false, false_or, not_true_eq_false, not_false_eq_true, and_false, false_and, implies_true, Nat.reduceAdd, Nat.reduceEqDiff, Nat.reduceLT, reduceIte, cls_CO_y, (show mCO_y.2.2.1 = 1 from rfl), dCO_y_0, dCO_y_1, bi_10, dCO_y_3, dCO_y_4, bi_63, dCO_y_6, dCO_y_7]
  exact rfl
set_option maxRecDepth 100000 in
theorem c_CO_z (l : Launch) (g : gG) (x : Int32) (h : gH) : gC l g mCO_z gr0 [.int x] h (fun r h' => r = some (.int ((x >>> (16 &&& 31)) &&& 63)) ∧ h' = h) := by
  refine gC_of (lv0 := [some (.int x)]) (by decide +kernel) (Nat.le_of_ble_eq_true rfl) (fun q hq => hq) ⟨rfl, rfl⟩ ?_
  refine gw_ev (T := gT0) 60 [] gRt_m (gTO_0 _ _ _ ⟨Nat.le_refl _, Nat.le_refl _⟩) ?_
  simp only [vc_i, vc_l, vc_r, vc_n, Nat.succ_ne_self, gSd_s, gEd_s, gEd_0, gGo_c, gGo_n, gAll_n, gAll_c, gwK_s, gStepD, gCT, gCF, gSet, gSet2, gKill, gTw, gTs, gLs, List.map_cons, List.map_nil, fv0, fv1, fv2, fv3, List.getElem?_cons_zero, List.getElem?_cons_succ, List.set_cons_zero, List.set_cons_succ, List.not_mem_nil, List.mem_cons, Option.toList_some, Option.toList_none, List.cons_append, List.nil_append, if_false, if_true, true_and, and_true, forall_const, true_implies, false_implies, or_false, false_or, not_true_eq_false, not_false_eq_true, and_false, false_and, implies_true, Nat.reduceAdd, Nat.reduceEqDiff, Nat.reduceLT, reduceIte, cls_CO_z, (show mCO_z.2.2.1 = 1 from rfl), dCO_z_0, dCO_z_1, bi_16, dCO_z_3, dCO_z_4, bi_63, dCO_z_6, dCO_z_7]
  exact rfl
set_option maxRecDepth 100000 in
theorem c_CO_d (l : Launch) (g : gG) (x : Int32) (h : gH) : gC l g mCO_d gr0 [.int x] h (fun r h' => r = some (.int ((x >>> (22 &&& 31)) &&& 15)) ∧ h' = h) := by
  refine gC_of (lv0 := [some (.int x)]) (by decide +kernel) (Nat.le_of_ble_eq_true rfl) (fun q hq => hq) ⟨rfl, rfl⟩ ?_
  refine gw_ev (T := gT0) 60 [] gRt_m (gTO_0 _ _ _ ⟨Nat.le_refl _, Nat.le_refl _⟩) ?_
  simp only [vc_i, vc_l, vc_r, vc_n, Nat.succ_ne_self, gSd_s, gEd_s, gEd_0, gGo_c, gGo_n, gAll_n, gAll_c, gwK_s, gStepD, gCT, gCF, gSet, gSet2, gKill, gTw, gTs, gLs, List.map_cons, List.map_nil, fv0, fv1, fv2, fv3, List.getElem?_cons_zero, List.getElem?_cons_succ, List.set_cons_zero, List.set_cons_succ, List.not_mem_nil, List.mem_cons, Option.toList_some, Option.toList_none, List.cons_append, List.nil_append, if_false, if_true, true_and, and_true, forall_const, true_implies, false_implies, or_false, false_or, not_true_eq_false, not_false_eq_true, and_false, false_and, implies_true, Nat.reduceAdd, Nat.reduceEqDiff, Nat.reduceLT, reduceIte, cls_CO_d, (show mCO_d.2.2.1 = 1 from rfl), dCO_d_0, dCO_d_1, bi_22, dCO_d_3, dCO_d_4, bi_15, dCO_d_6, dCO_d_7]
  exact rfl
set_option maxRecDepth 100000 in
theorem c_CO_speaker (l : Launch) (g : gG) (x : Int32) (h : gH) : gC l g mCO_speaker gr0 [.int x] h (fun r h' => r = some (.int (((x >>> (26 &&& 31)) &&& 3) - 1)) ∧ h' = h) := by
  refine gC_of (lv0 := [some (.int x)]) (by decide +kernel) (Nat.le_of_ble_eq_true rfl) (fun q hq => hq) ⟨rfl, rfl⟩ ?_
  refine gw_ev (T := gT0) 60 [] gRt_m (gTO_0 _ _ _ ⟨Nat.le_refl _, Nat.le_refl _⟩) ?_
  simp only [vc_i, vc_l, vc_r, vc_n, Nat.succ_ne_self, gSd_s, gEd_s, gEd_0, gGo_c, gGo_n, gAll_n, gAll_c, gwK_s, gStepD, gCT, gCF, gSet, gSet2, gKill, gTw, gTs, gLs, List.map_cons, List.map_nil, fv0, fv1, fv2, fv3, List.getElem?_cons_zero, List.getElem?_cons_succ, List.set_cons_zero, List.set_cons_succ, List.not_mem_nil, List.mem_cons, Option.toList_some, Option.toList_none, List.cons_append, List.nil_append, if_false, if_true, true_and, and_true, forall_const, true_implies, false_implies, or_false, false_or, not_true_eq_false, not_false_eq_true, and_false, false_and, implies_true, Nat.reduceAdd, Nat.reduceEqDiff, Nat.reduceLT, reduceIte, cls_CO_speaker, (show mCO_speaker.2.2.1 = 1 from rfl), dCO_speaker_0, dCO_speaker_1, bi_26, dCO_speaker_3, dCO_speaker_4, ic_3, dCO_speaker_5, dCO_speaker_6, ic_1, dCO_speaker_7, dCO_speaker_8]
  exact rfl
set_option maxRecDepth 100000 in
theorem c_CO_of (l : Launch) (g : gG) (k x y z d s : Int32) (h : gH) : gC l g mCO_of gr0 [.int k, .int x, .int y, .int z, .int d, .int s] h (fun r h' => r = some (.int (k ||| x <<< (4 &&& 31) ||| y <<< (10 &&& 31) ||| z <<< (16 &&& 31) ||| d <<< (22 &&& 31) ||| (s + 1) <<< (26 &&& 31))) ∧ h' = h) := by
  refine gC_of (lv0 := [some (.int k), some (.int x), some (.int y), some (.int z), some (.int d), some (.int s)]) (by decide +kernel) (Nat.le_of_ble_eq_true rfl) (fun q hq => hq) ⟨rfl, rfl⟩ ?_
  refine gw_ev (T := gT0) 60 [] gRt_m (gTO_0 _ _ _ ⟨Nat.le_refl _, Nat.le_refl _⟩) ?_
  simp only [vc_i, vc_l, vc_r, vc_n, Nat.succ_ne_self, gSd_s, gEd_s, gEd_0, gGo_c, gGo_n, gAll_n, gAll_c, gwK_s, gStepD, gCT, gCF, gSet, gSet2, gKill, gTw, gTs, gLs, List.map_cons, List.map_nil, fv0, fv1, fv2, fv3, List.getElem?_cons_zero, List.getElem?_cons_succ, List.set_cons_zero, List.set_cons_succ, List.not_mem_nil, List.mem_cons, Option.toList_some, Option.toList_none, List.cons_append, List.nil_append, if_false, if_true, true_and, and_true, forall_const, true_implies, false_implies, or_false, false_or, not_true_eq_false, not_false_eq_true, and_false, false_and, implies_true, Nat.reduceAdd, Nat.reduceEqDiff, Nat.reduceLT, reduceIte, cls_CO_of, (show mCO_of.2.2.1 = 6 from rfl), dCO_of_0, dCO_of_1, dCO_of_2, ic_4, dCO_of_3, dCO_of_4, dCO_of_5, dCO_of_6, bi_10, dCO_of_8, dCO_of_9, dCO_of_10, dCO_of_11, bi_16, dCO_of_13, dCO_of_14, dCO_of_15, dCO_of_17, bi_22, dCO_of_19, dCO_of_20, dCO_of_21, dCO_of_23, ic_1, dCO_of_24, dCO_of_25, bi_26, dCO_of_27, dCO_of_28, dCO_of_29]
  exact rfl
def bI (b : Bool) : Int32 := if b then 1 else 0
def thingsF (k : Int32) : Int32 := if k = 6 then 1 else if k = 5 ∨ k = 7 ∨ k = 8 then 3 else 2
def leastF (k : Int32) : Int32 := if k = 4 ∨ k = 9 then 1 else 0
def greatF (k n s : Int32) : Int32 := if k = 4 ∨ k = 6 then n - 1 else if k = 9 then s else 0
def isSoF (k d a b c : Int32) : Bool := if k.toInt = 0 then decide (a = b) else if k.toInt = 1 then decide (¬ a = b) else if k.toInt = 2 then decide (a < b) else if k.toInt = 3 then decide (a - b = 1 ∨ b - a = 1) else if k.toInt = 4 then decide (a - b = d ∨ b - a = d) else if k.toInt = 5 then decide (b < a ∧ a < c ∨ c < a ∧ a < b) else if k.toInt = 6 then decide (a = d) else if k.toInt = 7 then decide (a = b ∨ a = c) else if k.toInt = 8 then decide (¬ (a = b ↔ a = c)) else decide (a < b)
set_option maxRecDepth 100000 in
theorem c_CO_thingsOf (l : Launch) (g : gG) (k : Int32) (h : gH) : gC l g mCO_thingsOf gr0 [.int k] h (fun r h' => r = some (.int (thingsF k)) ∧ h' = h) := by
  refine gC_of (lv0 := [some (.int k)]) (by decide +kernel) (Nat.le_of_ble_eq_true rfl) (fun q hq => hq) ⟨rfl, rfl⟩ ?_
  refine gw_ev (T := gT0) 60 [] gRt_m (gTO_0 _ _ _ ⟨Nat.le_refl _, Nat.le_refl _⟩) ?_
  simp only [vc_i, vc_l, vc_r, vc_n, Nat.succ_ne_self, gSd_s, gEd_s, gEd_0, gGo_c, gGo_n, gAll_n, gAll_c, gwK_s, gStepD, gCT, gCF, gSet, gSet2, gKill, gTw, gTs, gLs, List.map_cons, List.map_nil, fv0, fv1, fv2, fv3, List.getElem?_cons_zero, List.getElem?_cons_succ, List.set_cons_zero, List.set_cons_succ, List.not_mem_nil, List.mem_cons, Option.toList_some, Option.toList_none, List.cons_append, List.nil_append, if_false, if_true, true_and, and_true, forall_const, true_implies, false_implies, or_false, false_or, not_true_eq_false, not_false_eq_true, and_false, false_and, implies_true, Nat.reduceAdd, Nat.reduceEqDiff, Nat.reduceLT, reduceIte, cls_CO_thingsOf, (show mCO_thingsOf.2.2.1 = 1 from rfl), dCO_thingsOf_0, dCO_thingsOf_1, bi_6, dCO_thingsOf_3, tg_3_5, tz_3_5, dCO_thingsOf_6, ic_1, dCO_thingsOf_7, dCO_thingsOf_8, dCO_thingsOf_9, ic_5, dCO_thingsOf_10, tg_10_15, tz_10_15, dCO_thingsOf_13, dCO_thingsOf_14, bi_7, dCO_thingsOf_16, tg_16_9, tz_16_9, dCO_thingsOf_19, dCO_thingsOf_20, bi_8, dCO_thingsOf_22, tg_22_7, tz_22_7, dCO_thingsOf_25, ic_3, dCO_thingsOf_26, tg_26_4, tz_26_4, dCO_thingsOf_29, ic_2, dCO_thingsOf_30]
  unfold thingsF
  repeat' first | (refine ⟨?_, ?_⟩) | (intro _)
  all_goals first | rfl | (simp [*]; done)
set_option maxRecDepth 100000 in
theorem c_CO_leastD (l : Launch) (g : gG) (k : Int32) (h : gH) : gC l g mCO_leastD gr0 [.int k] h (fun r h' => r = some (.int (leastF k)) ∧ h' = h) := by
  refine gC_of (lv0 := [some (.int k)]) (by decide +kernel) (Nat.le_of_ble_eq_true rfl) (fun q hq => hq) ⟨rfl, rfl⟩ ?_
  refine gw_ev (T := gT0) 60 [] gRt_m (gTO_0 _ _ _ ⟨Nat.le_refl _, Nat.le_refl _⟩) ?_
  simp only [vc_i, vc_l, vc_r, vc_n, Nat.succ_ne_self, gSd_s, gEd_s, gEd_0, gGo_c, gGo_n, gAll_n, gAll_c, gwK_s, gStepD, gCT, gCF, gSet, gSet2, gKill, gTw, gTs, gLs, List.map_cons, List.map_nil, fv0, fv1, fv2, fv3, List.getElem?_cons_zero, List.getElem?_cons_succ, List.set_cons_zero, List.set_cons_succ, List.not_mem_nil, List.mem_cons, Option.toList_some, Option.toList_none, List.cons_append, List.nil_append, if_false, if_true, true_and, and_true, forall_const, true_implies, false_implies, or_false, false_or, not_true_eq_false, not_false_eq_true, and_false, false_and, implies_true, Nat.reduceAdd, Nat.reduceEqDiff, Nat.reduceLT, reduceIte, cls_CO_leastD, (show mCO_leastD.2.2.1 = 1 from rfl), dCO_leastD_0, dCO_leastD_1, ic_4, dCO_leastD_2, tg_2_9, tz_2_9, dCO_leastD_5, dCO_leastD_6, bi_9, dCO_leastD_8, tg_8_7, tz_8_7, dCO_leastD_11, ic_1, dCO_leastD_12, tg_12_4, tz_12_4, dCO_leastD_15, ic_0, dCO_leastD_16]
  unfold leastF
  repeat' first | (refine ⟨?_, ?_⟩) | (intro _)
  all_goals first | rfl | (simp [*]; done)
set_option maxRecDepth 100000 in
theorem c_CO_greatestD (l : Launch) (g : gG) (k n s : Int32) (h : gH) : gC l g mCO_greatestD gr0 [.int k, .int n, .int s] h (fun r h' => r = some (.int (greatF k n s)) ∧ h' = h) := by
  refine gC_of (lv0 := [some (.int k), some (.int n), some (.int s)]) (by decide +kernel) (Nat.le_of_ble_eq_true rfl) (fun q hq => hq) ⟨rfl, rfl⟩ ?_
  refine gw_ev (T := gT0) 60 [] gRt_m (gTO_0 _ _ _ ⟨Nat.le_refl _, Nat.le_refl _⟩) ?_
  simp only [vc_i, vc_l, vc_r, vc_n, Nat.succ_ne_self, gSd_s, gEd_s, gEd_0, gGo_c, gGo_n, gAll_n, gAll_c, gwK_s, gStepD, gCT, gCF, gSet, gSet2, gKill, gTw, gTs, gLs, List.map_cons, List.map_nil, fv0, fv1, fv2, fv3, List.getElem?_cons_zero, List.getElem?_cons_succ, List.set_cons_zero, List.set_cons_succ, List.not_mem_nil, List.mem_cons, Option.toList_some, Option.toList_none, List.cons_append, List.nil_append, if_false, if_true, true_and, and_true, forall_const, true_implies, false_implies, or_false, false_or, not_true_eq_false, not_false_eq_true, and_false, false_and, implies_true, Nat.reduceAdd, Nat.reduceEqDiff, Nat.reduceLT, reduceIte, cls_CO_greatestD, (show mCO_greatestD.2.2.1 = 3 from rfl), dCO_greatestD_0, dCO_greatestD_1, ic_4, dCO_greatestD_2, tg_2_9, tz_2_9, dCO_greatestD_5, dCO_greatestD_6, bi_6, dCO_greatestD_8, tg_8_7, tz_8_7, dCO_greatestD_11, dCO_greatestD_12, ic_1, dCO_greatestD_13, dCO_greatestD_14, dCO_greatestD_15, dCO_greatestD_16, bi_9, dCO_greatestD_18, tg_18_7, tz_18_7, dCO_greatestD_21, dCO_greatestD_22, tg_22_4, tz_22_4, dCO_greatestD_25, ic_0, dCO_greatestD_26]
  unfold greatF
  repeat' first | (refine ⟨?_, ?_⟩) | (intro _)
  all_goals first | rfl | (simp [*]; done)
set_option maxRecDepth 100000 in
theorem c_CO_thingAt (l : Launch) (g : gG) (i n : Int32) (h : gH) (hn : ¬ n = 0) : gC l g mCO_thingAt gr0 [.int i, .int n] h (fun r h' => r = some (.int (10 * (i / n + 1) + (i - i / n * n))) ∧ h' = h) := by
  refine gC_of (lv0 := [some (.int i), some (.int n)]) (by decide +kernel) (Nat.le_of_ble_eq_true rfl) (fun q hq => hq) ⟨rfl, rfl⟩ ?_
  refine gw_ev (T := gT0) 60 [] gRt_m (gTO_0 _ _ _ ⟨Nat.le_refl _, Nat.le_refl _⟩) ?_
  simp only [vc_i, vc_l, vc_r, vc_n, Nat.succ_ne_self, gSd_s, gEd_s, gEd_0, gGo_c, gGo_n, gAll_n, gAll_c, gwK_s, gStepD, gCT, gCF, gSet, gSet2, gKill, gTw, gTs, gLs, List.map_cons, List.map_nil, fv0, fv1, fv2, fv3, List.getElem?_cons_zero, List.getElem?_cons_succ, List.set_cons_zero, List.set_cons_succ, List.not_mem_nil, List.mem_cons, Option.toList_some, Option.toList_none, List.cons_append, List.nil_append, if_false, if_true, true_and, and_true, forall_const, true_implies, false_implies, or_false, false_or, not_true_eq_false, not_false_eq_true, and_false, false_and, implies_true, Nat.reduceAdd, Nat.reduceEqDiff, Nat.reduceLT, reduceIte, cls_CO_thingAt, (show mCO_thingAt.2.2.1 = 2 from rfl), dCO_thingAt_0, bi_10, dCO_thingAt_2, dCO_thingAt_3, dCO_thingAt_4, dCO_thingAt_5, ic_1, dCO_thingAt_6, dCO_thingAt_7, dCO_thingAt_8, dCO_thingAt_9, dCO_thingAt_10, dCO_thingAt_11, dCO_thingAt_12]
  exact ⟨hn, hn, rfl⟩
set_option maxRecDepth 100000 in
set_option maxHeartbeats 1000000 in
theorem c_CO_isSo (l : Launch) (g : gG) (k d a b c : Int32) (h : gH) : gC l g mCO_isSo gr0 [.int k, .int d, .int a, .int b, .int c] h (fun r h' => r = some (.int (bI (isSoF k d a b c))) ∧ h' = h) := by
  refine gC_of (lv0 := [some (.int k), some (.int d), some (.int a), some (.int b), some (.int c)]) (by decide +kernel) (Nat.le_of_ble_eq_true rfl) (fun q hq => hq) ⟨rfl, rfl⟩ ?_
  refine gw_ev (T := gT0) 60 [] gRt_m (gTO_0 _ _ _ ⟨Nat.le_refl _, Nat.le_refl _⟩) ?_
  simp only [vc_i, vc_l, vc_r, vc_n, Nat.succ_ne_self, gSd_s, gEd_s, gEd_0, gGo_c, gGo_n, gAll_n, gAll_c, gwK_s, gStepD, gCT, gCF, gSet, gSet2, gKill, gTw, gTs, gLs, List.map_cons, List.map_nil, fv0, fv1, fv2, fv3, List.getElem?_cons_zero, List.getElem?_cons_succ, List.set_cons_zero, List.set_cons_succ, List.not_mem_nil, List.mem_cons, Option.toList_some, Option.toList_none, List.cons_append, List.nil_append, if_false, if_true, true_and, and_true, forall_const, true_implies, false_implies, or_false, false_or, not_true_eq_false, not_false_eq_true, and_false, false_and, implies_true, Nat.reduceAdd, Nat.reduceEqDiff, Nat.reduceLT, reduceIte, cls_CO_isSo, (show mCO_isSo.2.2.1 = 5 from rfl), dCO_isSo_0, dCO_isSo_1, tg_1_210, tz_1_210, tg_1_51, tz_1_51, tg_1_62, tz_1_62, tg_1_73, tz_1_73, tg_1_84, tz_1_84, tg_1_104, tz_1_104, tg_1_124, tz_1_124, tg_1_152, tz_1_152, tg_1_163, tz_1_163, tg_1_180, tz_1_180, dCO_isSo_52, dCO_isSo_53, dCO_isSo_54, tg_54_7, tz_54_7, dCO_isSo_57, ic_1, dCO_isSo_58, tg_58_4, tz_58_4, dCO_isSo_61, ic_0, dCO_isSo_62, dCO_isSo_63, dCO_isSo_64, dCO_isSo_65, tg_65_7, tz_65_7, dCO_isSo_68, dCO_isSo_69, tg_69_4, tz_69_4, dCO_isSo_72, dCO_isSo_73, dCO_isSo_74, dCO_isSo_75, dCO_isSo_76, tg_76_7, tz_76_7, dCO_isSo_79, dCO_isSo_80, tg_80_4, tz_80_4, dCO_isSo_83, dCO_isSo_84, dCO_isSo_85, dCO_isSo_86, dCO_isSo_87, dCO_isSo_88, dCO_isSo_89, tg_89_10, tz_89_10, dCO_isSo_92, dCO_isSo_93, dCO_isSo_94, dCO_isSo_95, dCO_isSo_96, tg_96_7, tz_96_7, dCO_isSo_99, dCO_isSo_100, tg_100_4, tz_100_4, dCO_isSo_103, dCO_isSo_104, dCO_isSo_105, dCO_isSo_106, dCO_isSo_107, dCO_isSo_108, dCO_isSo_109, tg_109_10, tz_109_10, dCO_isSo_112, dCO_isSo_113, dCO_isSo_114, dCO_isSo_115, dCO_isSo_116, tg_116_7, tz_116_7, dCO_isSo_119, dCO_isSo_120, tg_120_4, tz_120_4, dCO_isSo_123, dCO_isSo_124, dCO_isSo_125, dCO_isSo_126, dCO_isSo_127, tg_127_9, tz_127_9, dCO_isSo_130, dCO_isSo_131, dCO_isSo_133, tg_133_14, tz_133_14, dCO_isSo_136, dCO_isSo_138, dCO_isSo_139, tg_139_12, tz_139_12, dCO_isSo_142, dCO_isSo_143, dCO_isSo_144, tg_144_7, tz_144_7, dCO_isSo_147, dCO_isSo_148, tg_148_4, tz_148_4, dCO_isSo_151, dCO_isSo_152, dCO_isSo_153, dCO_isSo_154, dCO_isSo_155, tg_155_7, tz_155_7, dCO_isSo_158, dCO_isSo_159, tg_159_4, tz_159_4, dCO_isSo_162, dCO_isSo_163, dCO_isSo_164, dCO_isSo_165, dCO_isSo_166, tg_166_9, tz_166_9, dCO_isSo_169, dCO_isSo_170, dCO_isSo_172, tg_172_7, tz_172_7, dCO_isSo_175, dCO_isSo_176, tg_176_4, tz_176_4, dCO_isSo_179, dCO_isSo_180, dCO_isSo_181, dCO_isSo_182, dCO_isSo_183, tg_183_7, tz_183_7, dCO_isSo_186, dCO_isSo_187, tg_187_4, tz_187_4, dCO_isSo_190, dCO_isSo_191, dCO_isSo_192, dCO_isSo_194, tg_194_7, tz_194_7, dCO_isSo_197, dCO_isSo_198, tg_198_4, tz_198_4, dCO_isSo_201, dCO_isSo_202, tg_202_7, tz_202_7, dCO_isSo_205, dCO_isSo_206, tg_206_4, tz_206_4, dCO_isSo_209, dCO_isSo_210, dCO_isSo_211, dCO_isSo_212, dCO_isSo_213, tg_213_7, tz_213_7, dCO_isSo_216, dCO_isSo_217, tg_217_4, tz_217_4, dCO_isSo_220, dCO_isSo_221, Int.reduceAdd]
  refine ⟨by decide, fun hk => ?_, fun hk => ?_, fun hk => ?_, fun hk => ?_, fun hk => ?_, fun hk => ?_, fun hk => ?_, fun hk => ?_, fun hk => ?_, fun hk => ?_⟩
  · have h0 : ¬ k.toInt = 0 := by omega
    have h1 : ¬ k.toInt = 1 := by omega
    have h2 : ¬ k.toInt = 2 := by omega
    have h3 : ¬ k.toInt = 3 := by omega
    have h4 : ¬ k.toInt = 4 := by omega
    have h5 : ¬ k.toInt = 5 := by omega
    have h6 : ¬ k.toInt = 6 := by omega
    have h7 : ¬ k.toInt = 7 := by omega
    have h8 : ¬ k.toInt = 8 := by omega
    simp only [isSoF, h0, h1, h2, h3, h4, h5, h6, h7, h8, if_false]
    refine ⟨fun z => ⟨rfl, ?_⟩, fun z => ⟨rfl, ?_⟩⟩
    · simp [bI, Int32.not_lt.mpr z]
    · simp [bI, Int32.not_le.mp z]
  all_goals
    simp only [isSoF, hk]
    repeat' first | (refine ⟨?_, ?_⟩) | (intro _)
    all_goals first | rfl | (simp_all [bI, Int32.not_lt, Int32.not_le]; done) | (simp_all [bI, Int32.not_lt, Int32.not_le, Int32.lt_iff_toInt_lt, Int32.le_iff_toInt_le]; omega)
