-- the constructor of Maker
theorem grow_2 {h H : gH} {o z n q c : Nat} {a : Nat → Nat} {e : Nat → va_E} {x y x0 x1 w : va_E} (G : grow h o z n a e H) (ho : H o = some w) (hq : H q = none) (hzq : z ≤ q) (hc : gup H q x0 c = none) (hzc : z ≤ c) : grow h o z (n + 2) (fun j => if j = n + 1 then c else if j = n then q else a j) (fun j => if j = n + 1 then y else if j = n then x1 else e j) (gup (gup (gup (gup H q x0) c y) q x1) o x) := by
  have qo : q ≠ o := fun z => by rw [z, ho] at hq; cases hq
  have cq : c ≠ q := fun z => by rw [z, gup_s] at hc; cases hc
  have hc0 : H c = none := by rw [gup_n _ _ cq] at hc; exact hc
  have co : c ≠ o := fun z => by rw [z, ho] at hc0; cases hc0
  have G1 := grow_s (x := w) (y := x1) G hq hzq ho
  have G2 := grow_s (q := c) (x := x) (y := y) (w := w) G1 (by rw [gup_n _ _ co, gup_n _ _ cq]; exact hc0) hzc (gup_s _ _ _)
  have e9 : gup (gup (gup (gup H q x0) c y) q x1) o x = gup (gup (gup (gup H q x1) o w) c y) o x := by
    funext p
    by_cases c1 : p = o
    · rw [c1, gup_s, gup_s]
    rw [gup_n _ _ c1, gup_n _ _ c1]
    by_cases c2 : p = c
    · rw [c2, gup_n _ _ cq, gup_s, gup_s]
    · rw [gup_n _ _ c2, gup_n _ _ c1]
      by_cases c3 : p = q
      · rw [c3, gup_s, gup_s]
      · rw [gup_n _ _ c3, gup_n _ _ c2, gup_n _ _ c3, gup_n _ _ c3]
  rw [e9]
  exact G2
set_option maxRecDepth 20000 in
theorem wk_MA_18 : Cond.classLink "RiddleMill$Maker" 18 "RiddleMill$ClueList" ∈ gWS := gin 156 rfl rfl
set_option maxRecDepth 20000 in
theorem wx_CL : Cond.instantiable "RiddleMill$ClueList" 2 ∈ gWS := gin 33 rfl rfl
theorem wz_MA_20 : Cond.methodLinkNest "RiddleMill$Maker" 20 mCL_init.1 "RiddleMill" ∈ gNW := List.mem_of_getElem? (i := 1) rfl
theorem df_CL : ∀ j, j < 2 → defaultValue (gTY 0 j) = vp_V [.null, .int 0] j := fun j hj => by
  match j, hj with
  | 0, _ => rfl
  | 1, _ => rfl
set_option maxRecDepth 100000 in
set_option maxHeartbeats 4000000 in
theorem c_MA_init (l : Launch) (g : gG) (cI : ClassId) (hcI : (cI, FieldType.int) ∈ g.2.1) (N K o : Nat) (h : gH) (ho : h o = some (.inr (1, [.int 0, .int 0, .null, .null, .int 0, .long 0, .null]))) : gC l g mMA_init (grN 2 4 392) [.ref o, .int (nI N), .int (nI K)] h (fun r h' => r = none ∧ ∃ A : Nat → Nat, A 0 = o ∧ newA g h A 5 h' ∧ isMA cI N K A (A 3) (fun _ => 0, fun _ => 0, 0, 0) h' ∧ isCL cI (A 3) (A 4) 0 (fun _ => 0) h') := by
  have e9 : nI N * nI K = nI (N * K) := (Int32.ofNat_mul N K).symm
  refine gC_of (mc := 4) (ms := 392) (lv0 := [some (.ref o), some (.int (nI N)), some (.int (nI K))]) (by decide +kernel) (Nat.le_of_ble_eq_true rfl) (fun q hq => hq) ⟨rfl, rfl⟩ ?_
  have O0 := ho
  have G0 : grow h o (gsz g) 0 (fun _ => 0) (fun _ => .inr (0, [])) h := grow_0
  refine gw_ev (T := gT0) 60 [] gRt_f (gTO_0 _ _ _ ⟨Nat.le_of_ble_eq_true rfl, Nat.le_of_ble_eq_true rfl⟩) ?_
  simp only [vc_i, vc_l, vc_r, vc_n, Nat.succ_ne_self, gSd_s, gEd_s, gEd_0, gEd_B, gB_t, gB_f, gGo_c, gGo_n, gAll_n, gAll_c, gwK_s, gCT, gCF, gSet, gSet2, gKill, gTw, gTs, gLs, List.map_cons, List.map_nil, fv0, fv1, fv2, fv3, List.getElem?_cons_zero, List.getElem?_cons_succ, List.set_cons_zero, List.set_cons_succ, List.not_mem_nil, List.mem_cons, Option.toList_some, Option.toList_none, List.cons_append, List.nil_append, if_false, if_true, true_and, and_true, forall_const, true_implies, false_implies, or_false, false_or, not_true_eq_false, not_false_eq_true, and_false, false_and, implies_true, Nat.reduceAdd, Nat.reduceEqDiff, Nat.reduceLT, ↓reduceIte, cls_MA_init, st_aload_n, st_invokespecial, st_bipush, st_newarray, st_putfield, st_sipush, st_new, st_dup, st_iload_n, st_imul, st_return_, (show mMA_init.2.2.1 = 3 from rfl), fp_MA_init_9, fp_MA_init_15, fp_MA_init_21, fp_MA_init_25, fp_MA_init_29, dMA_init_0, dMA_init_1, dMA_init_4, dMA_init_5, bi_40, dMA_init_7, dMA_init_9, dMA_init_12, dMA_init_13, si_320, dMA_init_16, dMA_init_18, dMA_init_21, dMA_init_22, dMA_init_25, dMA_init_26, dMA_init_29, dMA_init_32, dMA_init_33, dMA_init_34, dMA_init_37, dMA_init_38, dMA_init_39, dMA_init_40, dMA_init_41, dMA_init_44]
  refine gw_obj dMA_init_1 wl_MA_3 wi_JO_init wc_JO_init ⟨by decide, Nat.le_of_ble_eq_true rfl⟩ ?_
  refine gw_ev (T := gT0) 60 [] gRt_f (gTO_0 _ _ _ ⟨Nat.le_of_ble_eq_true rfl, Nat.le_of_ble_eq_true rfl⟩) ?_
  simp only [vc_i, vc_l, vc_r, vc_n, Nat.succ_ne_self, gSd_s, gEd_s, gEd_0, gEd_B, gB_t, gB_f, gGo_c, gGo_n, gAll_n, gAll_c, gwK_s, gCT, gCF, gSet, gSet2, gKill, gTw, gTs, gLs, List.map_cons, List.map_nil, fv0, fv1, fv2, fv3, List.getElem?_cons_zero, List.getElem?_cons_succ, List.set_cons_zero, List.set_cons_succ, List.not_mem_nil, List.mem_cons, Option.toList_some, Option.toList_none, List.cons_append, List.nil_append, if_false, if_true, true_and, and_true, forall_const, true_implies, false_implies, or_false, false_or, not_true_eq_false, not_false_eq_true, and_false, false_and, implies_true, Nat.reduceAdd, Nat.reduceEqDiff, Nat.reduceLT, ↓reduceIte, cls_MA_init, st_aload_n, st_invokespecial, st_bipush, st_newarray, st_putfield, st_sipush, st_new, st_dup, st_iload_n, st_imul, st_return_, (show mMA_init.2.2.1 = 3 from rfl), fp_MA_init_9, fp_MA_init_15, fp_MA_init_21, fp_MA_init_25, fp_MA_init_29, dMA_init_0, dMA_init_1, dMA_init_4, dMA_init_5, bi_40, dMA_init_7, dMA_init_9, dMA_init_12, dMA_init_13, si_320, dMA_init_16, dMA_init_18, dMA_init_21, dMA_init_22, dMA_init_25, dMA_init_26, dMA_init_29, dMA_init_32, dMA_init_33, dMA_init_34, dMA_init_37, dMA_init_38, dMA_init_39, dMA_init_40, dMA_init_41, dMA_init_44]
  refine gw_newa (N := 40) (a0 := (40, .inl (fun _ => 0))) dMA_init_7 rfl (fun C z => by cases z) hcI wA_int (fun cA => rfl) (by decide) (by decide) (by decide) (Nat.le_of_ble_eq_true rfl) (Nat.le_of_ble_eq_true rfl) fun q0 hq0 hz0 => ?_
  have n0 : o ≠ q0 := fun e => by rw [← e, O0] at hq0; cases hq0
  refine gw_ev (T := gT0) 60 [] gRt_f (gTO_0 _ _ _ ⟨Nat.le_of_ble_eq_true rfl, Nat.le_of_ble_eq_true rfl⟩) ?_
  simp only [vc_i, vc_l, vc_r, vc_n, Nat.succ_ne_self, gSd_s, gEd_s, gEd_0, gEd_B, gB_t, gB_f, gGo_c, gGo_n, gAll_n, gAll_c, gwK_s, gCT, gCF, gSet, gSet2, gKill, gTw, gTs, gLs, List.map_cons, List.map_nil, fv0, fv1, fv2, fv3, List.getElem?_cons_zero, List.getElem?_cons_succ, List.set_cons_zero, List.set_cons_succ, List.not_mem_nil, List.mem_cons, Option.toList_some, Option.toList_none, List.cons_append, List.nil_append, if_false, if_true, true_and, and_true, forall_const, true_implies, false_implies, or_false, false_or, not_true_eq_false, not_false_eq_true, and_false, false_and, implies_true, Nat.reduceAdd, Nat.reduceEqDiff, Nat.reduceLT, ↓reduceIte, cls_MA_init, st_aload_n, st_invokespecial, st_bipush, st_newarray, st_putfield, st_sipush, st_new, st_dup, st_iload_n, st_imul, st_return_, (show mMA_init.2.2.1 = 3 from rfl), fp_MA_init_9, fp_MA_init_15, fp_MA_init_21, fp_MA_init_25, fp_MA_init_29, dMA_init_0, dMA_init_1, dMA_init_4, dMA_init_5, bi_40, dMA_init_7, dMA_init_9, dMA_init_12, dMA_init_13, si_320, dMA_init_16, dMA_init_18, dMA_init_21, dMA_init_22, dMA_init_25, dMA_init_26, dMA_init_29, dMA_init_32, dMA_init_33, dMA_init_34, dMA_init_37, dMA_init_38, dMA_init_39, dMA_init_40, dMA_init_41, dMA_init_44, gup_n _ _ n0, O0]
  refine ⟨⟨by show 2 < 7; decide, rfl, rfl⟩, ?_⟩
  obtain ⟨H1, e1⟩ : ∃ H, H = gup (gup h q0 (.inl (cI, 40, .inl (fun _ => 0)))) o (.inr (1, [.int 0, .int 0, .ref q0, .null, .int 0, .long 0, .null])) := ⟨_, rfl⟩
  rw [← e1]
  have O1 : H1 o = some (.inr (1, [.int 0, .int 0, .ref q0, .null, .int 0, .long 0, .null])) := by rw [e1]; exact gup_s _ _ _
  have G1 := grow_s (x := .inr (1, [.int 0, .int 0, .ref q0, .null, .int 0, .long 0, .null])) (y := .inl (cI, 40, .inl (fun _ => 0))) G0 hq0 hz0 O0
  rw [← e1] at G1
  refine gw_newa (N := 320) (a0 := (320, .inl (fun _ => 0))) dMA_init_16 rfl (fun C z => by cases z) hcI wA_int (fun cA => rfl) (by decide) (by decide) (by decide) (Nat.le_of_ble_eq_true rfl) (Nat.le_of_ble_eq_true rfl) fun q1 hq1 hz1 => ?_
  have n1 : o ≠ q1 := fun e => by rw [← e, O1] at hq1; cases hq1
  refine gw_ev (T := gT0) 60 [] gRt_f (gTO_0 _ _ _ ⟨Nat.le_of_ble_eq_true rfl, Nat.le_of_ble_eq_true rfl⟩) ?_
  simp only [vc_i, vc_l, vc_r, vc_n, Nat.succ_ne_self, gSd_s, gEd_s, gEd_0, gEd_B, gB_t, gB_f, gGo_c, gGo_n, gAll_n, gAll_c, gwK_s, gCT, gCF, gSet, gSet2, gKill, gTw, gTs, gLs, List.map_cons, List.map_nil, fv0, fv1, fv2, fv3, List.getElem?_cons_zero, List.getElem?_cons_succ, List.set_cons_zero, List.set_cons_succ, List.not_mem_nil, List.mem_cons, Option.toList_some, Option.toList_none, List.cons_append, List.nil_append, if_false, if_true, true_and, and_true, forall_const, true_implies, false_implies, or_false, false_or, not_true_eq_false, not_false_eq_true, and_false, false_and, implies_true, Nat.reduceAdd, Nat.reduceEqDiff, Nat.reduceLT, ↓reduceIte, cls_MA_init, st_aload_n, st_invokespecial, st_bipush, st_newarray, st_putfield, st_sipush, st_new, st_dup, st_iload_n, st_imul, st_return_, (show mMA_init.2.2.1 = 3 from rfl), fp_MA_init_9, fp_MA_init_15, fp_MA_init_21, fp_MA_init_25, fp_MA_init_29, dMA_init_0, dMA_init_1, dMA_init_4, dMA_init_5, bi_40, dMA_init_7, dMA_init_9, dMA_init_12, dMA_init_13, si_320, dMA_init_16, dMA_init_18, dMA_init_21, dMA_init_22, dMA_init_25, dMA_init_26, dMA_init_29, dMA_init_32, dMA_init_33, dMA_init_34, dMA_init_37, dMA_init_38, dMA_init_39, dMA_init_40, dMA_init_41, dMA_init_44, gup_n _ _ n1, O1]
  refine ⟨⟨by show 3 < 7; decide, rfl, rfl⟩, ?_⟩
  obtain ⟨H2, e2⟩ : ∃ H, H = gup (gup H1 q1 (.inl (cI, 320, .inl (fun _ => 0)))) o (.inr (1, [.int 0, .int 0, .ref q0, .ref q1, .int 0, .long 0, .null])) := ⟨_, rfl⟩
  rw [← e2]
  have O2 : H2 o = some (.inr (1, [.int 0, .int 0, .ref q0, .ref q1, .int 0, .long 0, .null])) := by rw [e2]; exact gup_s _ _ _
  have G2 := grow_s (x := .inr (1, [.int 0, .int 0, .ref q0, .ref q1, .int 0, .long 0, .null])) (y := .inl (cI, 320, .inl (fun _ => 0))) G1 hq1 hz1 O1
  rw [← e2] at G2
  refine gw_new (fs := [.null, .int 0]) dMA_init_22 (show gCL[0]? = some ("RiddleMill$ClueList", TCL, 2) from rfl) wk_MA_18 wx_CL wn_CL df_CL (Nat.le_of_ble_eq_true rfl) (Nat.le_of_ble_eq_true rfl) fun q2 hq2 hz2 => ?_
  have n2 : o ≠ q2 := fun e => by rw [← e, O2] at hq2; cases hq2
  refine gw_ev (T := gT0) 60 [] gRt_f (gTO_0 _ _ _ ⟨Nat.le_of_ble_eq_true rfl, Nat.le_of_ble_eq_true rfl⟩) ?_
  simp only [vc_i, vc_l, vc_r, vc_n, Nat.succ_ne_self, gSd_s, gEd_s, gEd_0, gEd_B, gB_t, gB_f, gGo_c, gGo_n, gAll_n, gAll_c, gwK_s, gCT, gCF, gSet, gSet2, gKill, gTw, gTs, gLs, List.map_cons, List.map_nil, fv0, fv1, fv2, fv3, List.getElem?_cons_zero, List.getElem?_cons_succ, List.set_cons_zero, List.set_cons_succ, List.not_mem_nil, List.mem_cons, Option.toList_some, Option.toList_none, List.cons_append, List.nil_append, if_false, if_true, true_and, and_true, forall_const, true_implies, false_implies, or_false, false_or, not_true_eq_false, not_false_eq_true, and_false, false_and, implies_true, Nat.reduceAdd, Nat.reduceEqDiff, Nat.reduceLT, ↓reduceIte, cls_MA_init, st_aload_n, st_invokespecial, st_bipush, st_newarray, st_putfield, st_sipush, st_new, st_dup, st_iload_n, st_imul, st_return_, (show mMA_init.2.2.1 = 3 from rfl), fp_MA_init_9, fp_MA_init_15, fp_MA_init_21, fp_MA_init_25, fp_MA_init_29, dMA_init_0, dMA_init_1, dMA_init_4, dMA_init_5, bi_40, dMA_init_7, dMA_init_9, dMA_init_12, dMA_init_13, si_320, dMA_init_16, dMA_init_18, dMA_init_21, dMA_init_22, dMA_init_25, dMA_init_26, dMA_init_29, dMA_init_32, dMA_init_33, dMA_init_34, dMA_init_37, dMA_init_38, dMA_init_39, dMA_init_40, dMA_init_41, dMA_init_44]
  refine gw_callIN (as := []) (b := q2) (rm := grN 1 1 30) dMA_init_26 (c_CL_init l g cI hcI q2 (gup H2 q2 (.inr (0, [.null, .int 0]))) (gup_s _ _ _)) wc_CL_init rfl rfl wz_MA_20 wi_CL_init wn_CL (by show _ ∧ _ ∧ _ = some 0; decide +kernel) ⟨by decide, Nat.le_of_ble_eq_true rfl⟩ (Nat.le_of_ble_eq_true rfl) ⟨Nat.le_of_ble_eq_true rfl, Nat.le_of_ble_eq_true rfl⟩ ?_
  intro vv h3 hvv
  obtain ⟨rfl, q3, hq3, hz3, hh3⟩ := hvv
  have O2b : h3 o = some (.inr (1, [.int 0, .int 0, .ref q0, .ref q1, .int 0, .long 0, .null])) := by
    have o3 : o ≠ q3 := fun e => by rw [← e, gup_n _ _ n2, O2] at hq3; cases hq3
    rw [hh3, gup_n _ _ n2, gup_n _ _ o3, gup_n _ _ n2, O2]
  refine gw_ev (T := gT0) 60 [32] gRt_f (gTO_0 _ _ _ ⟨Nat.le_of_ble_eq_true rfl, Nat.le_of_ble_eq_true rfl⟩) ?_
  simp only [vc_i, vc_l, vc_r, vc_n, Nat.succ_ne_self, gSd_s, gEd_s, gEd_0, gEd_B, gB_t, gB_f, gGo_c, gGo_n, gAll_n, gAll_c, gwK_s, gCT, gCF, gSet, gSet2, gKill, gTw, gTs, gLs, List.map_cons, List.map_nil, fv0, fv1, fv2, fv3, List.getElem?_cons_zero, List.getElem?_cons_succ, List.set_cons_zero, List.set_cons_succ, List.not_mem_nil, List.mem_cons, Option.toList_some, Option.toList_none, List.cons_append, List.nil_append, if_false, if_true, true_and, and_true, forall_const, true_implies, false_implies, or_false, false_or, not_true_eq_false, not_false_eq_true, and_false, false_and, implies_true, Nat.reduceAdd, Nat.reduceEqDiff, Nat.reduceLT, ↓reduceIte, cls_MA_init, st_aload_n, st_invokespecial, st_bipush, st_newarray, st_putfield, st_sipush, st_new, st_dup, st_iload_n, st_imul, st_return_, (show mMA_init.2.2.1 = 3 from rfl), fp_MA_init_9, fp_MA_init_15, fp_MA_init_21, fp_MA_init_25, fp_MA_init_29, dMA_init_0, dMA_init_1, dMA_init_4, dMA_init_5, bi_40, dMA_init_7, dMA_init_9, dMA_init_12, dMA_init_13, si_320, dMA_init_16, dMA_init_18, dMA_init_21, dMA_init_22, dMA_init_25, dMA_init_26, dMA_init_29, dMA_init_32, dMA_init_33, dMA_init_34, dMA_init_37, dMA_init_38, dMA_init_39, dMA_init_40, dMA_init_41, dMA_init_44, O2b]
  refine ⟨⟨by show 6 < 7; decide, rfl, rfl⟩, ?_⟩
  obtain ⟨H3, e3⟩ : ∃ H, H = gup h3 o (.inr (1, [.int 0, .int 0, .ref q0, .ref q1, .int 0, .long 0, .ref q2])) := ⟨_, rfl⟩
  rw [← e3]
  have O3 : H3 o = some (.inr (1, [.int 0, .int 0, .ref q0, .ref q1, .int 0, .long 0, .ref q2])) := by rw [e3]; exact gup_s _ _ _
  have G3 := grow_2 (x := .inr (1, [.int 0, .int 0, .ref q0, .ref q1, .int 0, .long 0, .ref q2])) (y := .inl (cI, 30, .inl (fun _ => 0))) (x1 := .inr (0, [.ref q3, .int 0])) G2 O2 hq2 hz2 hq3 hz3
  rw [← hh3, ← e3] at G3
  refine gw_ev (T := gT0) 60 [37] gRt_f (gTO_0 _ _ _ ⟨Nat.le_of_ble_eq_true rfl, Nat.le_of_ble_eq_true rfl⟩) ?_
  simp only [vc_i, vc_l, vc_r, vc_n, Nat.succ_ne_self, gSd_s, gEd_s, gEd_0, gEd_B, gB_t, gB_f, gGo_c, gGo_n, gAll_n, gAll_c, gwK_s, gCT, gCF, gSet, gSet2, gKill, gTw, gTs, gLs, List.map_cons, List.map_nil, fv0, fv1, fv2, fv3, List.getElem?_cons_zero, List.getElem?_cons_succ, List.set_cons_zero, List.set_cons_succ, List.not_mem_nil, List.mem_cons, Option.toList_some, Option.toList_none, List.cons_append, List.nil_append, if_false, if_true, true_and, and_true, forall_const, true_implies, false_implies, or_false, false_or, not_true_eq_false, not_false_eq_true, and_false, false_and, implies_true, Nat.reduceAdd, Nat.reduceEqDiff, Nat.reduceLT, ↓reduceIte, cls_MA_init, st_aload_n, st_invokespecial, st_bipush, st_newarray, st_putfield, st_sipush, st_new, st_dup, st_iload_n, st_imul, st_return_, (show mMA_init.2.2.1 = 3 from rfl), fp_MA_init_9, fp_MA_init_15, fp_MA_init_21, fp_MA_init_25, fp_MA_init_29, dMA_init_0, dMA_init_1, dMA_init_4, dMA_init_5, bi_40, dMA_init_7, dMA_init_9, dMA_init_12, dMA_init_13, si_320, dMA_init_16, dMA_init_18, dMA_init_21, dMA_init_22, dMA_init_25, dMA_init_26, dMA_init_29, dMA_init_32, dMA_init_33, dMA_init_34, dMA_init_37, dMA_init_38, dMA_init_39, dMA_init_40, dMA_init_41, dMA_init_44, O3]
  refine ⟨⟨by show 0 < 7; decide, rfl, rfl⟩, ?_⟩
  obtain ⟨H4, e4⟩ : ∃ H, H = gup H3 o (.inr (1, [.int (nI N), .int 0, .ref q0, .ref q1, .int 0, .long 0, .ref q2])) := ⟨_, rfl⟩
  rw [← e4]
  have O4 : H4 o = some (.inr (1, [.int (nI N), .int 0, .ref q0, .ref q1, .int 0, .long 0, .ref q2])) := by rw [e4]; exact gup_s _ _ _
  have G4 := grow_o (.inr (1, [.int (nI N), .int 0, .ref q0, .ref q1, .int 0, .long 0, .ref q2])) G3
  rw [← e4] at G4
  refine gw_ev (T := gT0) 60 [44] gRt_f (gTO_0 _ _ _ ⟨Nat.le_of_ble_eq_true rfl, Nat.le_of_ble_eq_true rfl⟩) ?_
  simp only [vc_i, vc_l, vc_r, vc_n, Nat.succ_ne_self, gSd_s, gEd_s, gEd_0, gEd_B, gB_t, gB_f, gGo_c, gGo_n, gAll_n, gAll_c, gwK_s, gCT, gCF, gSet, gSet2, gKill, gTw, gTs, gLs, List.map_cons, List.map_nil, fv0, fv1, fv2, fv3, List.getElem?_cons_zero, List.getElem?_cons_succ, List.set_cons_zero, List.set_cons_succ, List.not_mem_nil, List.mem_cons, Option.toList_some, Option.toList_none, List.cons_append, List.nil_append, if_false, if_true, true_and, and_true, forall_const, true_implies, false_implies, or_false, false_or, not_true_eq_false, not_false_eq_true, and_false, false_and, implies_true, Nat.reduceAdd, Nat.reduceEqDiff, Nat.reduceLT, ↓reduceIte, cls_MA_init, st_aload_n, st_invokespecial, st_bipush, st_newarray, st_putfield, st_sipush, st_new, st_dup, st_iload_n, st_imul, st_return_, (show mMA_init.2.2.1 = 3 from rfl), fp_MA_init_9, fp_MA_init_15, fp_MA_init_21, fp_MA_init_25, fp_MA_init_29, dMA_init_0, dMA_init_1, dMA_init_4, dMA_init_5, bi_40, dMA_init_7, dMA_init_9, dMA_init_12, dMA_init_13, si_320, dMA_init_16, dMA_init_18, dMA_init_21, dMA_init_22, dMA_init_25, dMA_init_26, dMA_init_29, dMA_init_32, dMA_init_33, dMA_init_34, dMA_init_37, dMA_init_38, dMA_init_39, dMA_init_40, dMA_init_41, dMA_init_44, O4, e9]
  refine ⟨⟨by show 1 < 7; decide, rfl, rfl⟩, ?_⟩
  obtain ⟨H5, e5⟩ : ∃ H, H = gup H4 o (.inr (1, [.int (nI N), .int (nI (N * K)), .ref q0, .ref q1, .int 0, .long 0, .ref q2])) := ⟨_, rfl⟩
  rw [← e5]
  have O5 : H5 o = some (.inr (1, [.int (nI N), .int (nI (N * K)), .ref q0, .ref q1, .int 0, .long 0, .ref q2])) := by rw [e5]; exact gup_s _ _ _
  have G5 := grow_o (.inr (1, [.int (nI N), .int (nI (N * K)), .ref q0, .ref q1, .int 0, .long 0, .ref q2])) G4
  rw [← e5] at G5
  refine gw_ev (T := gT0) 60 [] gRt_m (gTO_0 _ _ _ ⟨Nat.le_of_ble_eq_true rfl, Nat.le_of_ble_eq_true rfl⟩) ?_
  simp only [vc_i, vc_l, vc_r, vc_n, Nat.succ_ne_self, gSd_s, gEd_s, gEd_0, gEd_B, gB_t, gB_f, gGo_c, gGo_n, gAll_n, gAll_c, gwK_s, gCT, gCF, gSet, gSet2, gKill, gTw, gTs, gLs, List.map_cons, List.map_nil, fv0, fv1, fv2, fv3, List.getElem?_cons_zero, List.getElem?_cons_succ, List.set_cons_zero, List.set_cons_succ, List.not_mem_nil, List.mem_cons, Option.toList_some, Option.toList_none, List.cons_append, List.nil_append, if_false, if_true, true_and, and_true, forall_const, true_implies, false_implies, or_false, false_or, not_true_eq_false, not_false_eq_true, and_false, false_and, implies_true, Nat.reduceAdd, Nat.reduceEqDiff, Nat.reduceLT, ↓reduceIte, cls_MA_init, st_aload_n, st_invokespecial, st_bipush, st_newarray, st_putfield, st_sipush, st_new, st_dup, st_iload_n, st_imul, st_return_, (show mMA_init.2.2.1 = 3 from rfl), fp_MA_init_9, fp_MA_init_15, fp_MA_init_21, fp_MA_init_25, fp_MA_init_29, dMA_init_0, dMA_init_1, dMA_init_4, dMA_init_5, bi_40, dMA_init_7, dMA_init_9, dMA_init_12, dMA_init_13, si_320, dMA_init_16, dMA_init_18, dMA_init_21, dMA_init_22, dMA_init_25, dMA_init_26, dMA_init_29, dMA_init_32, dMA_init_33, dMA_init_34, dMA_init_37, dMA_init_38, dMA_init_39, dMA_init_40, dMA_init_41, dMA_init_44]
  exact ⟨rfl, anO o _, rfl, grow_A G5, ⟨(G5.1 0 (by decide)).1, (G5.1 1 (by decide)).1, O5⟩, (G5.1 2 (by decide)).1, (G5.1 3 (by decide)).1, by decide, fun _ => okc_0⟩
