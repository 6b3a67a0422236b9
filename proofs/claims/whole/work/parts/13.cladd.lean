set_option maxRecDepth 100000 in
theorem c_CL_add (l : Launch) (g : gG) (cI : ClassId) (hcI : (cI, FieldType.int) ∈ g.2.1) (o c n : Nat) (hn : n < 30) (x : Int32) (f : Nat → Int32) (h : gH) (ho : h o = some (.inr (0, [.ref c, .int (nI n)]))) (hc : h c = some (.inl (cI, 30, .inl f))) : gC l g mCL_add gr0 [.ref o, .int x] h (fun r h' => r = none ∧ h' = gup (gup h c (.inl (cI, 30, .inl (upd f n x)))) o (.inr (0, [.ref c, .int (nI (n + 1))]))) := by
  have hoc : o ≠ c := fun e => by rw [e, hc] at ho; cases ho
  refine gC_of (lv0 := [some (.ref o), some (.int x)]) (by decide +kernel) (Nat.le_of_ble_eq_true rfl) (fun q hq => hq) ⟨rfl, rfl⟩ ?_
  refine gw_ev (T := gT0) 60 [] gRt_m (gTO_0 _ _ _ ⟨Nat.le_refl _, Nat.le_refl _⟩) ?_
  simp only [vc_i, vc_l, vc_r, vc_n, Nat.succ_ne_self, gSd_s, gEd_s, gEd_0, gEd_B, gB_t, gB_f, gGo_c, gGo_n, gAll_n, gAll_c, gwK_s, gCT, gCF, gSet, gSet2, gKill, gTw, gTs, gLs, List.map_cons, List.map_nil, fv0, fv1, fv2, fv3, List.getElem?_cons_zero, List.getElem?_cons_succ, List.set_cons_zero, List.set_cons_succ, List.not_mem_nil, List.mem_cons, Option.toList_some, Option.toList_none, List.cons_append, List.nil_append, if_false, if_true, true_and, and_true, forall_const, true_implies, false_implies, or_false, false_or, not_true_eq_false, not_false_eq_true, and_false, false_and, implies_true, Nat.reduceAdd, Nat.reduceEqDiff, Nat.reduceLT, ↓reduceIte, cls_CL_add, st_aload_n, st_getfield, st_bipush, st_if_icmp, st_iload_n, st_iastore, st_dup, st_iconst, st_iadd, st_putfield, st_return_, (show mCL_add.2.2.1 = 2 from rfl), gF_CL_15, gF_CL_9, fp_CL_add_15, dCL_add_0, dCL_add_1, dCL_add_4, bi_30, dCL_add_6, tg_6_23, tz_6_23, dCL_add_9, dCL_add_10, dCL_add_13, dCL_add_14, dCL_add_17, dCL_add_18, dCL_add_19, dCL_add_20, dCL_add_21, dCL_add_24, ic_1, dCL_add_25, dCL_add_26, dCL_add_29, ho, hc, gup_n _ _ hoc]
  have hz : ¬ (30 : Int32) ≤ nI n := nI_ge (b := 30) hn (by omega)
  have hcl : (nI n).toNatClampNeg = n := nI_clamp (by omega)
  refine ⟨fun z => absurd z hz, fun _ => ⟨⟨hcI, vp_in_nI hn (by omega)⟩, ?_⟩⟩
  rw [hcl, nI_1]
  exact ⟨⟨by simp, rfl, rfl⟩, rfl, rfl⟩
def rmF (f : Nat → Int32) (i j : Nat) : Nat → Int32 := fun q => if i ≤ q ∧ q < j then f (q + 1) else f q
theorem rmF_0 (f : Nat → Int32) (i : Nat) : rmF f i i = f := by
  funext q
  unfold rmF
  rw [if_neg (by omega)]
theorem rmF_s (f : Nat → Int32) {i j : Nat} (h : i ≤ j) : upd (rmF f i j) j (f (j + 1)) = rmF f i (j + 1) := by
  funext q
  unfold upd rmF
  by_cases h1 : q = j
  · subst h1
    rw [if_pos rfl, if_pos (by omega)]
  · rw [if_neg h1]
    by_cases h2 : i ≤ q ∧ q < j
    · rw [if_pos h2, if_pos (by omega)]
    · rw [if_neg h2, if_neg (by omega)]
theorem rmF_n (f : Nat → Int32) (i j : Nat) : rmF f i j (j + 1) = f (j + 1) := by
  unfold rmF
  rw [if_neg (by omega)]
set_option maxRecDepth 100000 in
theorem c_CL_removeAt (l : Launch) (g : gG) (cI : ClassId) (hcI : (cI, FieldType.int) ∈ g.2.1) (o c n i : Nat) (hn : n ≤ 30) (hi : i < n) (f : Nat → Int32) (h : gH) (ho : h o = some (.inr (0, [.ref c, .int (nI n)]))) (hc : h c = some (.inl (cI, 30, .inl f))) : gC l g mCL_removeAt (gr 1) [.ref o, .int (nI i)] h (fun r h' => r = none ∧ h' = gup (gup h c (.inl (cI, 30, .inl (rmF f i (n - 1))))) o (.inr (0, [.ref c, .int (nI (n - 1))]))) := by
  have hoc : o ≠ c := fun e => by rw [e, hc] at ho; cases ho
  have loop : ∀ m j : Nat, i ≤ j → j + m = n - 1 → gw l g mCL_removeAt (gr 1) h (gZm g h 0 0 (fun r h' => r = none ∧ h' = gup (gup h c (.inl (cI, 30, .inl (rmF f i (n - 1))))) o (.inr (0, [.ref c, .int (nI (n - 1))])))) 0 0 11 [some (.ref o), some (.int (nI i)), some (.int (nI j))] [] (gup h c (.inl (cI, 30, .inl (rmF f i j)))) := by
    intro m
    induction m with
    | zero =>
      intro j hij hj
      refine gw_ev (T := gT0) 60 [11] gRt_m (gTO_0 _ _ _ ⟨Nat.le_refl _, Nat.le_refl _⟩) ?_
      simp only [vc_i, vc_l, vc_r, vc_n, Nat.succ_ne_self, gSd_s, gEd_s, gEd_0, gEd_B, gB_t, gB_f, gGo_c, gGo_n, gAll_n, gAll_c, gwK_s, gCT, gCF, gSet, gSet2, gKill, gTw, gTs, gLs, List.map_cons, List.map_nil, fv0, fv1, fv2, fv3, List.getElem?_cons_zero, List.getElem?_cons_succ, List.set_cons_zero, List.set_cons_succ, List.not_mem_nil, List.mem_cons, Option.toList_some, Option.toList_none, List.cons_append, List.nil_append, if_false, if_true, true_and, and_true, forall_const, true_implies, false_implies, or_false, false_or, not_true_eq_false, not_false_eq_true, and_false, false_and, implies_true, Nat.reduceAdd, Nat.reduceEqDiff, Nat.reduceLT, ↓reduceIte, cls_CL_removeAt, st_aload_n, st_iload_n, st_invokevirtual, st_ifCond, st_return_, st_istore_n, st_iconst, st_iadd, st_getfield, st_if_icmp, st_iaload, st_iastore, st_iinc, st_goto, st_dup, st_isub, st_putfield, (show mCL_removeAt.2.2.1 = 3 from rfl), tn_CL_19, (show gT0 10 = none from rfl), gF_CL_15, gF_CL_9, fp_CL_removeAt_15, dCL_removeAt_0, dCL_removeAt_1, dCL_removeAt_2, dCL_removeAt_5, tg_5_4, tz_5_4, dCL_removeAt_8, dCL_removeAt_9, dCL_removeAt_10, dCL_removeAt_11, dCL_removeAt_12, ic_1, dCL_removeAt_13, dCL_removeAt_14, dCL_removeAt_15, dCL_removeAt_18, tg_18_23, tz_18_23, dCL_removeAt_21, dCL_removeAt_22, dCL_removeAt_25, dCL_removeAt_26, dCL_removeAt_27, dCL_removeAt_30, dCL_removeAt_31, dCL_removeAt_32, dCL_removeAt_33, dCL_removeAt_34, dCL_removeAt_35, dCL_removeAt_38, tg_38_m27, tz_38_m27, dCL_removeAt_41, dCL_removeAt_42, dCL_removeAt_43, dCL_removeAt_46, dCL_removeAt_47, dCL_removeAt_48, dCL_removeAt_51, ho, hc, gup_n _ _ hoc, gup_s, gup_up]
      have hz : nI n ≤ nI j + 1 := by rw [nI_1]; exact nI_le (by omega) (by omega)
      refine ⟨fun _ => ?_, fun z => absurd hz z⟩
      rw [show n - 1 = j by omega, show n = j + 1 by omega, nI_pred]
      exact ⟨⟨by simp, rfl, rfl⟩, rfl, rfl⟩
    | succ m ih =>
      intro j hij hj
      refine gw_ev (T := gT0) 60 [11] gRt_m (gTO_0 _ _ _ ⟨Nat.le_refl _, Nat.le_refl _⟩) ?_
      simp only [vc_i, vc_l, vc_r, vc_n, Nat.succ_ne_self, gSd_s, gEd_s, gEd_0, gEd_B, gB_t, gB_f, gGo_c, gGo_n, gAll_n, gAll_c, gwK_s, gCT, gCF, gSet, gSet2, gKill, gTw, gTs, gLs, List.map_cons, List.map_nil, fv0, fv1, fv2, fv3, List.getElem?_cons_zero, List.getElem?_cons_succ, List.set_cons_zero, List.set_cons_succ, List.not_mem_nil, List.mem_cons, Option.toList_some, Option.toList_none, List.cons_append, List.nil_append, if_false, if_true, true_and, and_true, forall_const, true_implies, false_implies, or_false, false_or, not_true_eq_false, not_false_eq_true, and_false, false_and, implies_true, Nat.reduceAdd, Nat.reduceEqDiff, Nat.reduceLT, ↓reduceIte, cls_CL_removeAt, st_aload_n, st_iload_n, st_invokevirtual, st_ifCond, st_return_, st_istore_n, st_iconst, st_iadd, st_getfield, st_if_icmp, st_iaload, st_iastore, st_iinc, st_goto, st_dup, st_isub, st_putfield, (show mCL_removeAt.2.2.1 = 3 from rfl), tn_CL_19, (show gT0 10 = none from rfl), gF_CL_15, gF_CL_9, fp_CL_removeAt_15, dCL_removeAt_0, dCL_removeAt_1, dCL_removeAt_2, dCL_removeAt_5, tg_5_4, tz_5_4, dCL_removeAt_8, dCL_removeAt_9, dCL_removeAt_10, dCL_removeAt_11, dCL_removeAt_12, ic_1, dCL_removeAt_13, dCL_removeAt_14, dCL_removeAt_15, dCL_removeAt_18, tg_18_23, tz_18_23, dCL_removeAt_21, dCL_removeAt_22, dCL_removeAt_25, dCL_removeAt_26, dCL_removeAt_27, dCL_removeAt_30, dCL_removeAt_31, dCL_removeAt_32, dCL_removeAt_33, dCL_removeAt_34, dCL_removeAt_35, dCL_removeAt_38, tg_38_m27, tz_38_m27, dCL_removeAt_41, dCL_removeAt_42, dCL_removeAt_43, dCL_removeAt_46, dCL_removeAt_47, dCL_removeAt_48, dCL_removeAt_51, ho, hc, gup_n _ _ hoc, gup_s, gup_up]
      have hz : ¬ nI n ≤ nI j + 1 := by rw [nI_1]; exact nI_ge (by omega) (by omega)
      refine ⟨fun z => absurd z hz, fun _ => ?_⟩
      rw [nI_1, nI_clamp (n := j) (by omega), nI_clamp (n := j + 1) (by omega), rmF_n, rmF_s f hij]
      exact ⟨⟨hcI, vp_in_nI (by omega) (by omega)⟩, ⟨hcI, vp_in_nI (by omega) (by omega)⟩, ih (j + 1) (by omega) (by omega)⟩
  refine gC_of (lv0 := [some (.ref o), some (.int (nI i)), none]) (by decide +kernel) (Nat.le_of_ble_eq_true rfl) (fun q hq => hq) ⟨rfl, rfl⟩ ?_
  refine gw_ev (T := gT0) 60 [11] gRt_m (gTO_0 _ _ _ ⟨Nat.le_refl _, Nat.le_refl _⟩) ?_
  simp only [vc_i, vc_l, vc_r, vc_n, Nat.succ_ne_self, gSd_s, gEd_s, gEd_0, gEd_B, gB_t, gB_f, gGo_c, gGo_n, gAll_n, gAll_c, gwK_s, gCT, gCF, gSet, gSet2, gKill, gTw, gTs, gLs, List.map_cons, List.map_nil, fv0, fv1, fv2, fv3, List.getElem?_cons_zero, List.getElem?_cons_succ, List.set_cons_zero, List.set_cons_succ, List.not_mem_nil, List.mem_cons, Option.toList_some, Option.toList_none, List.cons_append, List.nil_append, if_false, if_true, true_and, and_true, forall_const, true_implies, false_implies, or_false, false_or, not_true_eq_false, not_false_eq_true, and_false, false_and, implies_true, Nat.reduceAdd, Nat.reduceEqDiff, Nat.reduceLT, ↓reduceIte, cls_CL_removeAt, st_aload_n, st_iload_n, st_invokevirtual, st_ifCond, st_return_, st_istore_n, st_iconst, st_iadd, st_getfield, st_if_icmp, st_iaload, st_iastore, st_iinc, st_goto, st_dup, st_isub, st_putfield, (show mCL_removeAt.2.2.1 = 3 from rfl), tn_CL_19, (show gT0 10 = none from rfl), gF_CL_15, gF_CL_9, fp_CL_removeAt_15, dCL_removeAt_0, dCL_removeAt_1, dCL_removeAt_2, dCL_removeAt_5, tg_5_4, tz_5_4, dCL_removeAt_8, dCL_removeAt_9, dCL_removeAt_10, dCL_removeAt_11, dCL_removeAt_12, ic_1, dCL_removeAt_13, dCL_removeAt_14, dCL_removeAt_15, dCL_removeAt_18, tg_18_23, tz_18_23, dCL_removeAt_21, dCL_removeAt_22, dCL_removeAt_25, dCL_removeAt_26, dCL_removeAt_27, dCL_removeAt_30, dCL_removeAt_31, dCL_removeAt_32, dCL_removeAt_33, dCL_removeAt_34, dCL_removeAt_35, dCL_removeAt_38, tg_38_m27, tz_38_m27, dCL_removeAt_41, dCL_removeAt_42, dCL_removeAt_43, dCL_removeAt_46, dCL_removeAt_47, dCL_removeAt_48, dCL_removeAt_51, ho, hc]
  refine gw_callV (as := [.int (nI i)]) (r := []) dCL_removeAt_2 (c_CL_has l g o c (nI n) (nI i) h ho) ho rfl wc_CL_has wl_CL_19 wi_CL_has ws_CL_has wn_CL (by show _ ∧ _ ∧ _ = some 1; decide +kernel) (by decide +kernel) (by decide) ⟨Nat.le_refl _, Nat.le_refl _⟩ (fun v h' hv => ?_)
  obtain ⟨rfl, rfl⟩ := hv
  have hb : bI (decide (¬ nI i < 0 ∧ nI i < nI n)) = 1 := by
    have h1 : ¬ nI i < 0 := nI_pos (by omega)
    have h2 : nI i < nI n := nI_lt hi (by omega)
    simp [bI, h1, h2]
  rw [hb]
  show gw l g mCL_removeAt (gr 1) h' (gZm g h' 0 0 _) 0 0 5 [some (.ref o), some (.int (nI i)), none] [.int 1] h'
  refine gw_ev (T := gT0) 60 [11] gRt_m (gTO_0 _ _ _ ⟨Nat.le_refl _, Nat.le_refl _⟩) ?_
  simp only [vc_i, vc_l, vc_r, vc_n, Nat.succ_ne_self, gSd_s, gEd_s, gEd_0, gEd_B, gB_t, gB_f, gGo_c, gGo_n, gAll_n, gAll_c, gwK_s, gCT, gCF, gSet, gSet2, gKill, gTw, gTs, gLs, List.map_cons, List.map_nil, fv0, fv1, fv2, fv3, List.getElem?_cons_zero, List.getElem?_cons_succ, List.set_cons_zero, List.set_cons_succ, List.not_mem_nil, List.mem_cons, Option.toList_some, Option.toList_none, List.cons_append, List.nil_append, if_false, if_true, true_and, and_true, forall_const, true_implies, false_implies, or_false, false_or, not_true_eq_false, not_false_eq_true, and_false, false_and, implies_true, Nat.reduceAdd, Nat.reduceEqDiff, Nat.reduceLT, ↓reduceIte, cls_CL_removeAt, st_aload_n, st_iload_n, st_invokevirtual, st_ifCond, st_return_, st_istore_n, st_iconst, st_iadd, st_getfield, st_if_icmp, st_iaload, st_iastore, st_iinc, st_goto, st_dup, st_isub, st_putfield, (show mCL_removeAt.2.2.1 = 3 from rfl), tn_CL_19, (show gT0 10 = none from rfl), gF_CL_15, gF_CL_9, fp_CL_removeAt_15, dCL_removeAt_0, dCL_removeAt_1, dCL_removeAt_2, dCL_removeAt_5, tg_5_4, tz_5_4, dCL_removeAt_8, dCL_removeAt_9, dCL_removeAt_10, dCL_removeAt_11, dCL_removeAt_12, ic_1, dCL_removeAt_13, dCL_removeAt_14, dCL_removeAt_15, dCL_removeAt_18, tg_18_23, tz_18_23, dCL_removeAt_21, dCL_removeAt_22, dCL_removeAt_25, dCL_removeAt_26, dCL_removeAt_27, dCL_removeAt_30, dCL_removeAt_31, dCL_removeAt_32, dCL_removeAt_33, dCL_removeAt_34, dCL_removeAt_35, dCL_removeAt_38, tg_38_m27, tz_38_m27, dCL_removeAt_41, dCL_removeAt_42, dCL_removeAt_43, dCL_removeAt_46, dCL_removeAt_47, dCL_removeAt_48, dCL_removeAt_51, ho, hc]
  have h9 := loop (n - 1 - i) i (Nat.le_refl _) (by omega)
  rw [rmF_0, gup_id hc] at h9
  exact ⟨fun _ => h9, fun z => absurd z (by decide)⟩
