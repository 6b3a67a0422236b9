set_option maxRecDepth 100000 in
theorem c_CO_kind (l : Launch) (g : gG) (x : Int32) (h : gH) : gC l g mCO_kind gr0 [.int x] h (fun r h' => r = some (.int (x &&& 15)) ∧ h' = h) := by
  refine gC_of (lv0 := [some (.int x)]) (by decide +kernel) (Nat.le_of_ble_eq_true rfl) (fun q hq => hq) ⟨rfl, rfl⟩ ?_
  refine gw_ev 10 [] gRt_m ?_
  simp only [gSd_s, gEd_s, gGo_c, gGo_n, gAll_n, gAll_c, gwK_s, dCO_kind_0, dCO_kind_1, dCO_kind_3, dCO_kind_4, gStepD, fv0, fv1, fv2, fv3, List.getElem?_cons_zero, List.getElem?_cons_succ, List.not_mem_nil, if_false, true_and, and_true, forall_const, true_implies, Nat.reduceAdd]
  trace_state
  sorry
