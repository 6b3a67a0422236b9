-- the mill: needed, where it answers
set_option maxRecDepth 100000 in
set_option maxHeartbeats 4000000 in
theorem c_RM_needed (l : Launch) (g : gG) (cL cI : ClassId) (hcI : (cI, FieldType.int) ∈ g.2.1) (N K : Nat) (hN : 0 < N ∧ N ≤ 5) (hK : K ≤ 3) (M : Nat → Nat) (hM : apU M 32) (s : RMS) (Q : Nat → Clue) (hQ : codesQ N K s.1.1 Q s.1.2) (h : gH) (hI : isRM cL cI N K M s h) (k : Nat) (hk : k < s.1.1) : gC l g mRM_needed (gr (N * K + 4)) [.ref (M 0), .int (nI k)] h (fun r h' => r = some (.int (bI (difP N K s.1.1 s.1.2 (nI k)))) ∧ isRM cL cI N K M s h' ∧ ∀ q, (∀ i, i < 32 → q ≠ M i) → h' q = h q) := by
  have ne : ∀ {i j : Nat}, i < 32 → j < 32 → i ≠ j → M i ≠ M j := fun hi hj n => apU_ne hM hi hj n
  obtain ⟨k0, i2, ⟨a1, a2, a3, a4⟩, i4, i5⟩ := hI
  have hn30 : s.1.1 ≤ 30 := i2.2.2.1
  have hAW : apW (fun i => M (3 + (5 + i))) := fun i j hi hj e => by
    have := hM (3 + (5 + i)) (3 + (5 + j)) (by omega) (by omega) e
    omega
  have hC := c_WO_differ l g cI hcI (fun i => M (3 + (5 + i))) hAW N K s.1.1 (M 1) (M 2) hN hK s.1.2 (nI k) h a3 i2 (fun i hi => ne (by omega) (by omega) (by omega))
  have w0 : ∃ fw, h (M 8) = some (.inr (4, fw)) := by
    obtain ⟨_, _, _, _, _, _, _, _, _, _, w0, _⟩ := a3
    exact ⟨_, w0⟩
  obtain ⟨fw, w0⟩ := w0
  have k1 := i2.1
  have hb : bI (decide (¬ nI k < 0 ∧ nI k < nI s.1.1)) = 1 := by
    have h1 : ¬ nI k < 0 := nI_pos (by omega)
    have h2 : nI k < nI s.1.1 := nI_lt (by omega) (by omega)
    rw [decide_eq_true ⟨h1, h2⟩]
    rfl
  have hH := c_CL_has l g (M 1) (M 2) (nI s.1.1) (nI k) h k1
  rw [hb] at hH
  refine gC_of (lv0 := [some (.ref (M 0)), some (.int (nI k))]) (by decide +kernel) (Nat.le_of_ble_eq_true rfl) (fun q hq => hq) ⟨rfl, rfl⟩ ?_
  refine gw_ev (T := gT0) 60 [] gRt_m (gTO_0 _ _ _ ⟨Nat.le_refl _, Nat.le_refl _⟩) ?_
  simp only [vc_i, vc_l, vc_r, vc_n, Nat.succ_ne_self, gSd_s, gEd_s, gEd_0, gEd_B, gB_t, gB_f, gGo_c, gGo_n, gAll_n, gAll_c, gwK_s, gCT, gCF, gSet, gSet2, gKill, gTw, gTs, gLs, List.map_cons, List.map_nil, fv0, fv1, fv2, fv3, List.getElem?_cons_zero, List.getElem?_cons_succ, List.set_cons_zero, List.set_cons_succ, List.not_mem_nil, List.mem_cons, Option.toList_some, Option.toList_none, List.cons_append, List.nil_append, if_false, if_true, true_and, and_true, forall_const, true_implies, false_implies, or_false, false_or, not_true_eq_false, not_false_eq_true, and_false, false_and, implies_true, Nat.reduceAdd, Nat.reduceEqDiff, Nat.reduceLT, ↓reduceIte, cls_RM_needed, st_aload_n, st_getfield, st_iload_n, st_invokevirtual, st_ifCond, st_new, st_dup, st_ldc, st_invokespecial, st_athrow, st_ireturn, (show mRM_needed.2.2.1 = 2 from rfl), gF_RM_28, tn_RM_86, (show gT0 10 = none from rfl), gF_RM_37, tn_RM_133, (show gT0 84 = none from rfl), dRM_needed_0, dRM_needed_1, dRM_needed_4, dRM_needed_5, dRM_needed_8, tg_8_13, tz_8_13, dRM_needed_11, dRM_needed_14, dRM_needed_15, dRM_needed_17, dRM_needed_20, dRM_needed_21, dRM_needed_22, dRM_needed_25, dRM_needed_26, dRM_needed_29, dRM_needed_30, dRM_needed_33, k0, fRM]
  refine gw_cV (r := []) dRM_needed_5 (hH) rfl (k1) rfl wc_CL_has wl_RM_86 wi_CL_has ws_CL_has wn_CL (by show _ ∧ _ ∧ _ = some 1; decide +kernel) (by decide) (gr_ge (by first | decide | omega)) (Nat.le_of_ble_eq_true rfl) ⟨Nat.le_refl _, Nat.le_refl _⟩ ?_
  refine gw_ev (T := gT0) 60 [] gRt_m (gTO_0 _ _ _ ⟨Nat.le_refl _, Nat.le_refl _⟩) ?_
  simp only [vc_i, vc_l, vc_r, vc_n, Nat.succ_ne_self, gSd_s, gEd_s, gEd_0, gEd_B, gB_t, gB_f, gGo_c, gGo_n, gAll_n, gAll_c, gwK_s, gCT, gCF, gSet, gSet2, gKill, gTw, gTs, gLs, List.map_cons, List.map_nil, fv0, fv1, fv2, fv3, List.getElem?_cons_zero, List.getElem?_cons_succ, List.set_cons_zero, List.set_cons_succ, List.not_mem_nil, List.mem_cons, Option.toList_some, Option.toList_none, List.cons_append, List.nil_append, if_false, if_true, true_and, and_true, forall_const, true_implies, false_implies, or_false, false_or, not_true_eq_false, not_false_eq_true, and_false, false_and, implies_true, Nat.reduceAdd, Nat.reduceEqDiff, Nat.reduceLT, ↓reduceIte, cls_RM_needed, st_aload_n, st_getfield, st_iload_n, st_invokevirtual, st_ifCond, st_new, st_dup, st_ldc, st_invokespecial, st_athrow, st_ireturn, (show mRM_needed.2.2.1 = 2 from rfl), gF_RM_28, tn_RM_86, (show gT0 10 = none from rfl), gF_RM_37, tn_RM_133, (show gT0 84 = none from rfl), dRM_needed_0, dRM_needed_1, dRM_needed_4, dRM_needed_5, dRM_needed_8, tg_8_13, tz_8_13, dRM_needed_11, dRM_needed_14, dRM_needed_15, dRM_needed_17, dRM_needed_20, dRM_needed_21, dRM_needed_22, dRM_needed_25, dRM_needed_26, dRM_needed_29, dRM_needed_30, dRM_needed_33, k0, fRM, oz]
  refine gw_cQ (r := []) dRM_needed_30 (hC) rfl (w0) rfl wc_WO_differ wl_RM_133 wi_WO_differ ws_WO_differ wn_WO (by show _ ∧ _ ∧ _ = some 2; decide +kernel) (by decide) (gr_ge (by first | decide | omega)) (Nat.le_of_ble_eq_true rfl) ⟨Nat.le_refl _, Nat.le_refl _⟩ ?_
  intro vv h2 hvv
  obtain ⟨b3, fr, pa, pw, pt, hp, hpt, rfl⟩ := hvv
  rw [difP_any hN hK hQ (nI k) pa pw pt hpt]
  have hEnd : isRM cL cI N K M s h2 := by
    refine ⟨(fr _ (fun i hi => ne (by omega) (by omega) (by omega))).trans k0, isCL_fr (fr _ (fun i hi => ne (by omega) (by omega) (by omega))) (fr _ (fun i hi => ne (by omega) (by omega) (by omega))) i2, ⟨isMA_fr (fun i hi => fr _ (fun j hj => ne (by omega) (by omega) (by omega))) a1, isCL_fr (fr _ (fun i hi => ne (by omega) (by omega) (by omega))) (fr _ (fun i hi => ne (by omega) (by omega) (by omega))) a2, b3, isPR_fr (fun i hi => fr _ (fun j hj => ne (by omega) (by omega) (by omega))) a4⟩, isPR_fr (fun i hi => fr _ (fun j hj => ne (by omega) (by omega) (by omega))) i4, isSP_fr (fun i hi => fr _ (fun j hj => ne (by omega) (by omega) (by omega))) i5⟩
  refine gw_ev (T := gT0) 60 [] gRt_m (gTO_0 _ _ _ ⟨Nat.le_refl _, Nat.le_refl _⟩) ?_
  simp only [vc_i, vc_l, vc_r, vc_n, Nat.succ_ne_self, gSd_s, gEd_s, gEd_0, gEd_B, gB_t, gB_f, gGo_c, gGo_n, gAll_n, gAll_c, gwK_s, gCT, gCF, gSet, gSet2, gKill, gTw, gTs, gLs, List.map_cons, List.map_nil, fv0, fv1, fv2, fv3, List.getElem?_cons_zero, List.getElem?_cons_succ, List.set_cons_zero, List.set_cons_succ, List.not_mem_nil, List.mem_cons, Option.toList_some, Option.toList_none, List.cons_append, List.nil_append, if_false, if_true, true_and, and_true, forall_const, true_implies, false_implies, or_false, false_or, not_true_eq_false, not_false_eq_true, and_false, false_and, implies_true, Nat.reduceAdd, Nat.reduceEqDiff, Nat.reduceLT, ↓reduceIte, cls_RM_needed, st_aload_n, st_getfield, st_iload_n, st_invokevirtual, st_ifCond, st_new, st_dup, st_ldc, st_invokespecial, st_athrow, st_ireturn, (show mRM_needed.2.2.1 = 2 from rfl), gF_RM_28, tn_RM_86, (show gT0 10 = none from rfl), gF_RM_37, tn_RM_133, (show gT0 84 = none from rfl), dRM_needed_0, dRM_needed_1, dRM_needed_4, dRM_needed_5, dRM_needed_8, tg_8_13, tz_8_13, dRM_needed_11, dRM_needed_14, dRM_needed_15, dRM_needed_17, dRM_needed_20, dRM_needed_21, dRM_needed_22, dRM_needed_25, dRM_needed_26, dRM_needed_29, dRM_needed_30, dRM_needed_33]
  exact ⟨by cases difP N K s.1.1 s.1.2 (nI k) <;> rfl, hEnd, fun q n => fr q (fun i hi => n _ (by omega))⟩
