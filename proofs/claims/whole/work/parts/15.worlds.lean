def manyF (x : Int32) : Bool := decide (¬ (x &&& (x - 1)) = 0)
set_option maxRecDepth 100000 in
theorem c_WO_isMany (l : Launch) (g : gG) (x : Int32) (h : gH) : gC l g mWO_isMany gr0 [.int x] h (fun r h' => r = some (.int (bI (manyF x))) ∧ h' = h) := by
  refine gC_of (lv0 := [some (.int x)]) (by decide +kernel) (Nat.le_of_ble_eq_true rfl) (fun q hq => hq) ⟨rfl, rfl⟩ ?_
  refine gw_ev (T := gT0) 60 [] gRt_m (gTO_0 _ _ _ ⟨Nat.le_refl _, Nat.le_refl _⟩) ?_
  simp only [vc_i, vc_l, vc_r, vc_n, Nat.succ_ne_self, gSd_s, gEd_s, gEd_0, gEd_B, gB_t, gB_f, gGo_c, gGo_n, gAll_n, gAll_c, gwK_s, gCT, gCF, gSet, gSet2, gKill, gTw, gTs, gLs, List.map_cons, List.map_nil, fv0, fv1, fv2, fv3, List.getElem?_cons_zero, List.getElem?_cons_succ, List.set_cons_zero, List.set_cons_succ, List.not_mem_nil, List.mem_cons, Option.toList_some, Option.toList_none, List.cons_append, List.nil_append, if_false, if_true, true_and, and_true, forall_const, true_implies, false_implies, or_false, false_or, not_true_eq_false, not_false_eq_true, and_false, false_and, implies_true, Nat.reduceAdd, Nat.reduceEqDiff, Nat.reduceLT, ↓reduceIte, cls_WO_isMany, st_iload_n, st_iconst, st_isub, st_iand, st_ifCond, st_goto, st_ireturn, (show mWO_isMany.2.2.1 = 1 from rfl), dWO_isMany_0, dWO_isMany_1, dWO_isMany_2, ic_1, dWO_isMany_3, dWO_isMany_4, dWO_isMany_5, tg_5_7, tz_5_7, dWO_isMany_8, dWO_isMany_9, tg_9_4, tz_9_4, dWO_isMany_12, ic_0, dWO_isMany_13]
  refine ⟨fun z => ⟨rfl, ?_⟩, fun z => ⟨rfl, ?_⟩⟩
  · simp [bI, manyF, z]
  · simp [bI, manyF, z]
