-- the mill: count and needed, where they answer
set_option maxRecDepth 100000 in
set_option maxHeartbeats 4000000 in
theorem c_RM_count (l : Launch) (g : gG) (cL cI : ClassId) (hcI : (cI, FieldType.int) ∈ g.2.1) (N K : Nat) (hN : 0 < N ∧ N ≤ 5) (hK : K ≤ 3) (M : Nat → Nat) (hM : apU M 32) (s : RMS) (h : gH) (hI : isRM cL cI N K M s h) (x : Int32) (hx : (0 : Int32) ≤ x) : gC l g mRM_count (gr (N * K + 4)) [.ref (M 0), .int x] h (fun r h' => isRM cL cI N K M s h' ∧ (∀ q, (∀ i, i < 32 → q ≠ M i) → h' q = h q) ∧ ∃ pa pw pt : Nat → Int32, (∀ j, pt j = 0) ∧ r = some (.int (if 0 < x then minF (plRun N K s.1.1 s.1.2 (-1) x 1000000 (-1) pa pw pt).2.2.2.1 x else 0))) := by
  have ne : ∀ {i j : Nat}, i < 32 → j < 32 → i ≠ j → M i ≠ M j := fun hi hj n => apU_ne hM hi hj n
  obtain ⟨k0, i2, ⟨a1, a2, a3, a4⟩, i4, i5⟩ := hI
  have hAW : apW (fun i => M (3 + (5 + i))) := fun i j hi hj e => by
    have := hM (3 + (5 + i)) (3 + (5 + j)) (by omega) (by omega) e
    omega
  have hC := c_WO_number l g cI hcI (fun i => M (3 + (5 + i))) hAW N K s.1.1 (M 1) (M 2) hN hK s.1.2 x h a3 i2 (fun i hi => ne (by omega) (by omega) (by omega))
  have w0 : ∃ fw, h (M 8) = some (.inr (4, fw)) := by
    obtain ⟨_, _, _, _, _, _, _, _, _, _, w0, _⟩ := a3
    exact ⟨_, w0⟩
  obtain ⟨fw, w0⟩ := w0
  refine gC_of (lv0 := [some (.ref (M 0)), some (.int x)]) (by decide +kernel) (Nat.le_of_ble_eq_true rfl) (fun q hq => hq) ⟨rfl, rfl⟩ ?_
  refine gw_ev (T := gT0) 60 [] gRt_m (gTO_0 _ _ _ ⟨Nat.le_refl _, Nat.le_refl _⟩) ?_
  simp only [vc_i, vc_l, vc_r, vc_n, Nat.succ_ne_self, gSd_s, gEd_s, gEd_0, gEd_B, gB_t, gB_f, gGo_c, gGo_n, gAll_n, gAll_c, gwK_s, gCT, gCF, gSet, gSet2, gKill, gTw, gTs, gLs, List.map_cons, List.map_nil, fv0, fv1, fv2, fv3, List.getElem?_cons_zero, List.getElem?_cons_succ, List.set_cons_zero, List.set_cons_succ, List.not_mem_nil, List.mem_cons, Option.toList_some, Option.toList_none, List.cons_append, List.nil_append, if_false, if_true, true_and, and_true, forall_const, true_implies, false_implies, or_false, false_or, not_true_eq_false, not_false_eq_true, and_false, false_and, implies_true, Nat.reduceAdd, Nat.reduceEqDiff, Nat.reduceLT, ↓reduceIte, cls_RM_count, st_iload_n, st_ifCond, st_new, st_dup, st_ldc, st_invokespecial, st_athrow, st_aload_n, st_getfield, st_invokevirtual, st_ireturn, (show mRM_count.2.2.1 = 2 from rfl), gF_RM_37, gF_RM_28, tn_RM_123, (show gT0 82 = none from rfl), dRM_count_0, dRM_count_1, tg_1_13, tz_1_13, dRM_count_4, dRM_count_7, dRM_count_8, dRM_count_10, dRM_count_13, dRM_count_14, dRM_count_15, dRM_count_18, dRM_count_19, dRM_count_22, dRM_count_23, dRM_count_26, k0, fRM, hx]
  refine gw_cQ (r := []) dRM_count_23 (hC) rfl (w0) rfl wc_WO_number wl_RM_123 wi_WO_number ws_WO_number wn_WO (by show _ ∧ _ ∧ _ = some 2; decide +kernel) (by decide) (gr_ge (by first | decide | omega)) (Nat.le_of_ble_eq_true rfl) ⟨Nat.le_refl _, Nat.le_refl _⟩ ?_
  intro vv h2 hvv
  obtain ⟨b3, fr, pa, pw, pt, hp, hpt, rfl⟩ := hvv
  have hEnd : isRM cL cI N K M s h2 := by
    refine ⟨(fr _ (fun i hi => ne (by omega) (by omega) (by omega))).trans k0, isCL_fr (fr _ (fun i hi => ne (by omega) (by omega) (by omega))) (fr _ (fun i hi => ne (by omega) (by omega) (by omega))) i2, ⟨isMA_fr (fun i hi => fr _ (fun j hj => ne (by omega) (by omega) (by omega))) a1, isCL_fr (fr _ (fun i hi => ne (by omega) (by omega) (by omega))) (fr _ (fun i hi => ne (by omega) (by omega) (by omega))) a2, b3, isPR_fr (fun i hi => fr _ (fun j hj => ne (by omega) (by omega) (by omega))) a4⟩, isPR_fr (fun i hi => fr _ (fun j hj => ne (by omega) (by omega) (by omega))) i4, isSP_fr (fun i hi => fr _ (fun j hj => ne (by omega) (by omega) (by omega))) i5⟩
  refine gw_ev (T := gT0) 60 [] gRt_m (gTO_0 _ _ _ ⟨Nat.le_refl _, Nat.le_refl _⟩) ?_
  simp only [vc_i, vc_l, vc_r, vc_n, Nat.succ_ne_self, gSd_s, gEd_s, gEd_0, gEd_B, gB_t, gB_f, gGo_c, gGo_n, gAll_n, gAll_c, gwK_s, gCT, gCF, gSet, gSet2, gKill, gTw, gTs, gLs, List.map_cons, List.map_nil, fv0, fv1, fv2, fv3, List.getElem?_cons_zero, List.getElem?_cons_succ, List.set_cons_zero, List.set_cons_succ, List.not_mem_nil, List.mem_cons, Option.toList_some, Option.toList_none, List.cons_append, List.nil_append, if_false, if_true, true_and, and_true, forall_const, true_implies, false_implies, or_false, false_or, not_true_eq_false, not_false_eq_true, and_false, false_and, implies_true, Nat.reduceAdd, Nat.reduceEqDiff, Nat.reduceLT, ↓reduceIte, cls_RM_count, st_iload_n, st_ifCond, st_new, st_dup, st_ldc, st_invokespecial, st_athrow, st_aload_n, st_getfield, st_invokevirtual, st_ireturn, (show mRM_count.2.2.1 = 2 from rfl), gF_RM_37, gF_RM_28, tn_RM_123, (show gT0 82 = none from rfl), dRM_count_0, dRM_count_1, tg_1_13, tz_1_13, dRM_count_4, dRM_count_7, dRM_count_8, dRM_count_10, dRM_count_13, dRM_count_14, dRM_count_15, dRM_count_18, dRM_count_19, dRM_count_22, dRM_count_23, dRM_count_26]
  exact ⟨rfl, hEnd, fun q n => fr q (fun i hi => n _ (by omega)), pa, pw, pt, hpt, rfl⟩
