-- the mill: what it is asked: clueAt, about, step, may, prove
theorem thing40 {N K : Nat} (hN : N ≤ 5) (hK : K ≤ 3) {x : Int32} (h : thingB (nI N) (nI K) x = true) : ∃ y : Nat, 10 ≤ y ∧ y < 40 ∧ x = nI y ∧ vp_in x 40 := by
  have hx : ¬ x < 10 := (of_decide_eq_true h).1
  have hx0 : ¬ x < 0 := fun z => hx (Int32.lt_trans z (by decide))
  obtain ⟨y, hy, rfl⟩ := nI_of hx0
  obtain ⟨a, b, c, _⟩ := thing_idx hN hK hy h
  have h40 : y < 40 := by omega
  exact ⟨y, a, h40, rfl, vp_in_nI h40 (by omega)⟩
theorem vin_of {k : Int32} {n m : Nat} (h1 : ¬ k < 0) (h2 : k < nI n) (hn : n ≤ m) (hm : m < 2 ^ 31) : vp_in k m := by
  obtain ⟨y, hy, rfl⟩ := nI_of h1
  have h3 : ¬ nI n ≤ nI y := Int32.not_le.mpr h2
  rw [nI_leI (by omega) hy] at h3
  exact vp_in_nI (by omega) (by omega)
def clmF (n : Nat) (cs : Nat → Int32) (k w : Int32) : Int32 := if ¬ k < 0 ∧ k < nI n then (if w.toInt = 0 then kindF (cs k.toNatClampNeg) else if w.toInt = 1 then xF (cs k.toNatClampNeg) else if w.toInt = 2 then yF (cs k.toNatClampNeg) else if w.toInt = 3 then zF (cs k.toNatClampNeg) else if w.toInt = 4 then dF (cs k.toNatClampNeg) else if w.toInt = 5 then spF (cs k.toNatClampNeg) else -1) else -1
set_option maxRecDepth 100000 in
set_option maxHeartbeats 4000000 in
theorem c_RM_clueAt (l : Launch) (g : gG) (cL cI : ClassId) (hcI : (cI, FieldType.int) ∈ g.2.1) (N K : Nat) (M : Nat → Nat) (s : RMS) (h : gH) (hI : isRM cL cI N K M s h) (k w : Int32) : gC l g mRM_clueAt (gr 1) [.ref (M 0), .int k, .int w] h (fun r h' => r = some (.int (clmF s.1.1 s.1.2 k w)) ∧ h' = h) := by
  obtain ⟨k0, ⟨i1, i2, i3, i4⟩, _, _, _⟩ := hI
  have hC := c_CL_has l g (M 1) (M 2) (nI s.1.1) k h i1
  refine gC_of (lv0 := [some (.ref (M 0)), some (.int k), some (.int w), none]) (by decide +kernel) (Nat.le_of_ble_eq_true rfl) (fun q hq => hq) ⟨rfl, rfl⟩ ?_
  refine gw_ev (T := gT0) 60 [] gRt_m (gTO_0 _ _ _ ⟨Nat.le_refl _, Nat.le_refl _⟩) ?_
  simp only [vc_i, vc_l, vc_r, vc_n, Nat.succ_ne_self, gSd_s, gEd_s, gEd_0, gEd_B, gB_t, gB_f, gGo_c, gGo_n, gAll_n, gAll_c, gwK_s, gCT, gCF, gSet, gSet2, gKill, gTw, gTs, gLs, List.map_cons, List.map_nil, fv0, fv1, fv2, fv3, List.getElem?_cons_zero, List.getElem?_cons_succ, List.set_cons_zero, List.set_cons_succ, List.not_mem_nil, List.mem_cons, Option.toList_some, Option.toList_none, List.cons_append, List.nil_append, if_false, if_true, true_and, and_true, forall_const, true_implies, false_implies, or_false, false_or, not_true_eq_false, not_false_eq_true, and_false, false_and, implies_true, Nat.reduceAdd, Nat.reduceEqDiff, Nat.reduceLT, ↓reduceIte, cls_RM_clueAt, st_aload_n, st_getfield, st_iload_n, st_invokevirtual, st_ifCond, st_iconst, st_ireturn, st_iaload, st_istore_n, st_tableswitch, st_invokestatic, (show mRM_clueAt.2.2.1 = 4 from rfl), gF_RM_28, tn_RM_86, (show gT0 10 = none from rfl), gF_RM_99, tn_RM_103, (show gT0 11 = none from rfl), tn_RM_106, (show gT0 12 = none from rfl), tn_RM_109, (show gT0 13 = none from rfl), tn_RM_112, (show gT0 14 = none from rfl), tn_RM_115, (show gT0 15 = none from rfl), tn_RM_118, (show gT0 16 = none from rfl), dRM_clueAt_0, dRM_clueAt_1, dRM_clueAt_4, dRM_clueAt_5, dRM_clueAt_8, tg_8_5, tz_8_5, dRM_clueAt_11, ic_m1, dRM_clueAt_12, dRM_clueAt_13, dRM_clueAt_14, dRM_clueAt_17, dRM_clueAt_20, dRM_clueAt_21, dRM_clueAt_22, dRM_clueAt_23, dRM_clueAt_24, tg_24_70, tz_24_70, tg_24_40, tz_24_40, tg_24_45, tz_24_45, tg_24_50, tz_24_50, tg_24_55, tz_24_55, tg_24_60, tz_24_60, tg_24_65, tz_24_65, dRM_clueAt_64, dRM_clueAt_65, dRM_clueAt_68, dRM_clueAt_69, dRM_clueAt_70, dRM_clueAt_73, dRM_clueAt_74, dRM_clueAt_75, dRM_clueAt_78, dRM_clueAt_79, dRM_clueAt_80, dRM_clueAt_83, dRM_clueAt_84, dRM_clueAt_85, dRM_clueAt_88, dRM_clueAt_89, dRM_clueAt_90, dRM_clueAt_93, dRM_clueAt_94, dRM_clueAt_95, k0, fRM]
  refine gw_cV (r := []) dRM_clueAt_5 (hC) rfl (i1) rfl wc_CL_has wl_RM_86 wi_CL_has ws_CL_has wn_CL (by show _ ∧ _ ∧ _ = some 1; decide +kernel) (by decide) (gr_ge (by first | decide | omega)) (Nat.le_of_ble_eq_true rfl) ⟨Nat.le_refl _, Nat.le_refl _⟩ ?_
  unfold clmF
  by_cases c : ¬ k < 0 ∧ k < nI s.1.1
  · rw [if_pos c, decide_eq_true c, bI_t]
    have vk : vp_in k 30 := vin_of c.1 c.2 i3 (by omega)
    refine gw_ev (T := gT1) 60 [] gRt_m ⟨1, kgT1, gr_ge (by first | decide | omega), ⟨Nat.le_refl _, Nat.le_refl _⟩⟩ ?_
    simp only [vc_i, vc_l, vc_r, vc_n, Nat.succ_ne_self, gSd_s, gEd_s, gEd_0, gEd_B, gB_t, gB_f, gGo_c, gGo_n, gAll_n, gAll_c, gwK_s, gCT, gCF, gSet, gSet2, gKill, gTw, gTs, gLs, List.map_cons, List.map_nil, fv0, fv1, fv2, fv3, List.getElem?_cons_zero, List.getElem?_cons_succ, List.set_cons_zero, List.set_cons_succ, List.not_mem_nil, List.mem_cons, Option.toList_some, Option.toList_none, List.cons_append, List.nil_append, if_false, if_true, true_and, and_true, forall_const, true_implies, false_implies, or_false, false_or, not_true_eq_false, not_false_eq_true, and_false, false_and, implies_true, Nat.reduceAdd, Nat.reduceEqDiff, Nat.reduceLT, ↓reduceIte, cls_RM_clueAt, st_aload_n, st_getfield, st_iload_n, st_invokevirtual, st_ifCond, st_iconst, st_ireturn, st_iaload, st_istore_n, st_tableswitch, st_invokestatic, (show mRM_clueAt.2.2.1 = 4 from rfl), gF_RM_28, tn_RM_86, (show gT1 10 = none from rfl), gF_RM_99, tn_RM_103, gT1_11, gp_CO_kind, ms_11, gCs_n, gCs_c, Nat.reduceLeDiff, tn_RM_106, gT1_12, gp_CO_x, ms_12, tn_RM_109, gT1_13, gp_CO_y, ms_13, tn_RM_112, gT1_14, gp_CO_z, ms_14, tn_RM_115, gT1_15, gp_CO_d, ms_15, tn_RM_118, gT1_16, gp_CO_speaker, ms_16, dRM_clueAt_0, dRM_clueAt_1, dRM_clueAt_4, dRM_clueAt_5, dRM_clueAt_8, tg_8_5, tz_8_5, dRM_clueAt_11, ic_m1, dRM_clueAt_12, dRM_clueAt_13, dRM_clueAt_14, dRM_clueAt_17, dRM_clueAt_20, dRM_clueAt_21, dRM_clueAt_22, dRM_clueAt_23, dRM_clueAt_24, tg_24_70, tz_24_70, tg_24_40, tz_24_40, tg_24_45, tz_24_45, tg_24_50, tz_24_50, tg_24_55, tz_24_55, tg_24_60, tz_24_60, tg_24_65, tz_24_65, dRM_clueAt_64, dRM_clueAt_65, dRM_clueAt_68, dRM_clueAt_69, dRM_clueAt_70, dRM_clueAt_73, dRM_clueAt_74, dRM_clueAt_75, dRM_clueAt_78, dRM_clueAt_79, dRM_clueAt_80, dRM_clueAt_83, dRM_clueAt_84, dRM_clueAt_85, dRM_clueAt_88, dRM_clueAt_89, dRM_clueAt_90, dRM_clueAt_93, dRM_clueAt_94, dRM_clueAt_95, k0, i1, i2, fRM, oz, Int.reduceAdd]
    refine ⟨⟨hcI, vk⟩, by decide, fun z => ?_, fun z => ?_, fun z => ?_, fun z => ?_, fun z => ?_, fun z => ?_, fun z => ?_⟩
    · rw [if_neg (by omega), if_neg (by omega), if_neg (by omega), if_neg (by omega), if_neg (by omega), if_neg (by omega)]
      exact ⟨rfl, rfl⟩
    · rw [if_pos z]
      exact ⟨rfl, rfl⟩
    · rw [if_neg (by omega), if_pos z]
      exact ⟨rfl, rfl⟩
    · rw [if_neg (by omega), if_neg (by omega), if_pos z]
      exact ⟨rfl, rfl⟩
    · rw [if_neg (by omega), if_neg (by omega), if_neg (by omega), if_pos z]
      exact ⟨rfl, rfl⟩
    · rw [if_neg (by omega), if_neg (by omega), if_neg (by omega), if_neg (by omega), if_pos z]
      exact ⟨rfl, rfl⟩
    · rw [if_neg (by omega), if_neg (by omega), if_neg (by omega), if_neg (by omega), if_neg (by omega), if_pos z]
      exact ⟨rfl, rfl⟩
  · rw [if_neg c, decide_eq_false c, bI_f]
    refine gw_ev (T := gT0) 60 [] gRt_m (gTO_0 _ _ _ ⟨Nat.le_refl _, Nat.le_refl _⟩) ?_
    simp only [vc_i, vc_l, vc_r, vc_n, Nat.succ_ne_self, gSd_s, gEd_s, gEd_0, gEd_B, gB_t, gB_f, gGo_c, gGo_n, gAll_n, gAll_c, gwK_s, gCT, gCF, gSet, gSet2, gKill, gTw, gTs, gLs, List.map_cons, List.map_nil, fv0, fv1, fv2, fv3, List.getElem?_cons_zero, List.getElem?_cons_succ, List.set_cons_zero, List.set_cons_succ, List.not_mem_nil, List.mem_cons, Option.toList_some, Option.toList_none, List.cons_append, List.nil_append, if_false, if_true, true_and, and_true, forall_const, true_implies, false_implies, or_false, false_or, not_true_eq_false, not_false_eq_true, and_false, false_and, implies_true, Nat.reduceAdd, Nat.reduceEqDiff, Nat.reduceLT, ↓reduceIte, cls_RM_clueAt, st_aload_n, st_getfield, st_iload_n, st_invokevirtual, st_ifCond, st_iconst, st_ireturn, st_iaload, st_istore_n, st_tableswitch, st_invokestatic, (show mRM_clueAt.2.2.1 = 4 from rfl), gF_RM_28, tn_RM_86, (show gT0 10 = none from rfl), gF_RM_99, tn_RM_103, (show gT0 11 = none from rfl), tn_RM_106, (show gT0 12 = none from rfl), tn_RM_109, (show gT0 13 = none from rfl), tn_RM_112, (show gT0 14 = none from rfl), tn_RM_115, (show gT0 15 = none from rfl), tn_RM_118, (show gT0 16 = none from rfl), dRM_clueAt_0, dRM_clueAt_1, dRM_clueAt_4, dRM_clueAt_5, dRM_clueAt_8, tg_8_5, tz_8_5, dRM_clueAt_11, ic_m1, dRM_clueAt_12, dRM_clueAt_13, dRM_clueAt_14, dRM_clueAt_17, dRM_clueAt_20, dRM_clueAt_21, dRM_clueAt_22, dRM_clueAt_23, dRM_clueAt_24, tg_24_70, tz_24_70, tg_24_40, tz_24_40, tg_24_45, tz_24_45, tg_24_50, tz_24_50, tg_24_55, tz_24_55, tg_24_60, tz_24_60, tg_24_65, tz_24_65, dRM_clueAt_64, dRM_clueAt_65, dRM_clueAt_68, dRM_clueAt_69, dRM_clueAt_70, dRM_clueAt_73, dRM_clueAt_74, dRM_clueAt_75, dRM_clueAt_78, dRM_clueAt_79, dRM_clueAt_80, dRM_clueAt_83, dRM_clueAt_84, dRM_clueAt_85, dRM_clueAt_88, dRM_clueAt_89, dRM_clueAt_90, dRM_clueAt_93, dRM_clueAt_94, dRM_clueAt_95]
    exact rfl
set_option maxRecDepth 100000 in
set_option maxHeartbeats 4000000 in
theorem c_RM_about (l : Launch) (g : gG) (cL cI : ClassId) (N K : Nat) (M : Nat → Nat) (s : RMS) (h : gH) (hI : isRM cL cI N K M s h) (w : Int32) : gC l g mRM_about (gr 0) [.ref (M 0), .int w] h (fun r h' => r = some (.int (aboutF (nI N) (nI K) (nI s.1.1) w)) ∧ h' = h) := by
  obtain ⟨k0, ⟨i1, i2, i3, i4⟩, _, _, _⟩ := hI
  refine gC_of (lv0 := [some (.ref (M 0)), some (.int w)]) (by decide +kernel) (Nat.le_of_ble_eq_true rfl) (fun q hq => hq) ⟨rfl, rfl⟩ ?_
  refine gw_ev (T := gT0) 60 [] gRt_m (gTO_0 _ _ _ ⟨Nat.le_refl _, Nat.le_refl _⟩) ?_
  simp only [vc_i, vc_l, vc_r, vc_n, Nat.succ_ne_self, gSd_s, gEd_s, gEd_0, gEd_B, gB_t, gB_f, gGo_c, gGo_n, gAll_n, gAll_c, gwK_s, gCT, gCF, gSet, gSet2, gKill, gTw, gTs, gLs, List.map_cons, List.map_nil, fv0, fv1, fv2, fv3, List.getElem?_cons_zero, List.getElem?_cons_succ, List.set_cons_zero, List.set_cons_succ, List.not_mem_nil, List.mem_cons, Option.toList_some, Option.toList_none, List.cons_append, List.nil_append, if_false, if_true, true_and, and_true, forall_const, true_implies, false_implies, or_false, false_or, not_true_eq_false, not_false_eq_true, and_false, false_and, implies_true, Nat.reduceAdd, Nat.reduceEqDiff, Nat.reduceLT, ↓reduceIte, cls_RM_about, st_iload_n, st_tableswitch, st_aload_n, st_getfield, st_ireturn, st_iconst, (show mRM_about.2.2.1 = 2 from rfl), gF_RM_16, gF_RM_22, gF_RM_28, gF_RM_204, dRM_about_0, dRM_about_1, tg_1_45, tz_1_45, tg_1_27, tz_1_27, tg_1_32, tz_1_32, tg_1_37, tz_1_37, dRM_about_28, dRM_about_29, dRM_about_32, dRM_about_33, dRM_about_34, dRM_about_37, dRM_about_38, dRM_about_39, dRM_about_42, dRM_about_45, dRM_about_46, ic_m1, dRM_about_47, k0, i1, fRM, Int.reduceAdd]
  refine ⟨by decide, fun z => ?_, fun z => ?_, fun z => ?_, fun z => ?_⟩
  · unfold aboutF
    rw [if_neg (by omega), if_neg (by omega), if_neg (by omega)]
    exact ⟨rfl, rfl⟩
  · unfold aboutF
    rw [if_pos z]
    exact ⟨rfl, rfl⟩
  · unfold aboutF
    rw [if_neg (by omega), if_pos z]
    exact ⟨rfl, rfl⟩
  · unfold aboutF
    rw [if_neg (by omega), if_neg (by omega), if_pos z]
    exact ⟨rfl, rfl⟩
def stmF (t : PS) (k w : Int32) : Int32 := if ¬ k < 0 ∧ k < nI t.2.2.2.2.2.1 then (if w.toInt = 0 then t.2.1 k.toNatClampNeg else if w.toInt = 1 then t.2.2.1 k.toNatClampNeg else if w.toInt = 2 then t.2.2.2.1 k.toNatClampNeg else if w.toInt = 3 then t.2.2.2.2.1 k.toNatClampNeg else -1) else -1
set_option maxRecDepth 100000 in
set_option maxHeartbeats 4000000 in
theorem c_RM_step (l : Launch) (g : gG) (cL cI : ClassId) (hcI : (cI, FieldType.int) ∈ g.2.1) (N K : Nat) (M : Nat → Nat) (s : RMS) (h : gH) (hI : isRM cL cI N K M s h) (hl : s.2.2.1.2.2.2.2.2.1 ≤ 50) (k w : Int32) : gC l g mRM_step (gr 0) [.ref (M 0), .int k, .int w] h (fun r h' => r = some (.int (stmF s.2.2.1 k w)) ∧ h' = h) := by
  obtain ⟨k0, _, _, ⟨p1, p2, p3, p4, p5, p0⟩, _⟩ := hI
  have q0 : h (M 21) = some (.inr (2, fPR (nI N) (nI (N * K)) (fun i => M (21 + i)) (nI s.2.2.1.2.2.2.2.2.1) s.2.2.1.2.2.2.2.2.2.1 s.2.2.1.2.2.2.2.2.2.2)) := p0
  have q2 : h (M (21 + 2)) = some (.inl (cI, 50, .inl s.2.2.1.2.1)) := p2
  have q3 : h (M (21 + 3)) = some (.inl (cI, 50, .inl s.2.2.1.2.2.1)) := p3
  have q4 : h (M (21 + 4)) = some (.inl (cI, 50, .inl s.2.2.1.2.2.2.1)) := p4
  have q5 : h (M (21 + 5)) = some (.inl (cI, 50, .inl s.2.2.1.2.2.2.2.1)) := p5
  refine gC_of (lv0 := [some (.ref (M 0)), some (.int k), some (.int w)]) (by decide +kernel) (Nat.le_of_ble_eq_true rfl) (fun q hq => hq) ⟨rfl, rfl⟩ ?_
  unfold stmF
  by_cases c1 : k < 0
  · rw [if_neg (fun z => z.1 c1)]
    refine gw_ev (T := gT0) 60 [] gRt_m (gTO_0 _ _ _ ⟨Nat.le_refl _, Nat.le_refl _⟩) ?_
    simp only [vc_i, vc_l, vc_r, vc_n, Nat.succ_ne_self, gSd_s, gEd_s, gEd_0, gEd_B, gB_t, gB_f, gGo_c, gGo_n, gAll_n, gAll_c, gwK_s, gCT, gCF, gSet, gSet2, gKill, gTw, gTs, gLs, List.map_cons, List.map_nil, fv0, fv1, fv2, fv3, List.getElem?_cons_zero, List.getElem?_cons_succ, List.set_cons_zero, List.set_cons_succ, List.not_mem_nil, List.mem_cons, Option.toList_some, Option.toList_none, List.cons_append, List.nil_append, if_false, if_true, true_and, and_true, forall_const, true_implies, false_implies, or_false, false_or, not_true_eq_false, not_false_eq_true, and_false, false_and, implies_true, Nat.reduceAdd, Nat.reduceEqDiff, Nat.reduceLT, ↓reduceIte, cls_RM_step, st_iload_n, st_ifCond, st_aload_n, st_getfield, st_if_icmp, st_iconst, st_ireturn, st_tableswitch, st_iaload, (show mRM_step.2.2.1 = 3 from rfl), gF_RM_44, gF_RM_141, gF_RM_144, gF_RM_147, gF_RM_150, gF_RM_153, dRM_step_0, dRM_step_1, tg_1_14, tz_1_14, dRM_step_4, dRM_step_5, dRM_step_6, dRM_step_9, dRM_step_12, tg_12_5, tz_12_5, dRM_step_15, ic_m1, dRM_step_16, dRM_step_17, dRM_step_18, tg_18_70, tz_18_70, tg_18_30, tz_18_30, tg_18_40, tz_18_40, tg_18_50, tz_18_50, tg_18_60, tz_18_60, dRM_step_48, dRM_step_49, dRM_step_52, dRM_step_55, dRM_step_56, dRM_step_57, dRM_step_58, dRM_step_59, dRM_step_62, dRM_step_65, dRM_step_66, dRM_step_67, dRM_step_68, dRM_step_69, dRM_step_72, dRM_step_75, dRM_step_76, dRM_step_77, dRM_step_78, dRM_step_79, dRM_step_82, dRM_step_85, dRM_step_86, dRM_step_87, dRM_step_88, dRM_step_89, k0, q0, fRM, fPR, c1]
    exact rfl
  by_cases c2 : k < nI s.2.2.1.2.2.2.2.2.1
  · rw [if_pos ⟨c1, c2⟩]
    have vk : vp_in k 50 := vin_of c1 c2 hl (by omega)
    refine gw_ev (T := gT0) 60 [] gRt_m (gTO_0 _ _ _ ⟨Nat.le_refl _, Nat.le_refl _⟩) ?_
    simp only [vc_i, vc_l, vc_r, vc_n, Nat.succ_ne_self, gSd_s, gEd_s, gEd_0, gEd_B, gB_t, gB_f, gGo_c, gGo_n, gAll_n, gAll_c, gwK_s, gCT, gCF, gSet, gSet2, gKill, gTw, gTs, gLs, List.map_cons, List.map_nil, fv0, fv1, fv2, fv3, List.getElem?_cons_zero, List.getElem?_cons_succ, List.set_cons_zero, List.set_cons_succ, List.not_mem_nil, List.mem_cons, Option.toList_some, Option.toList_none, List.cons_append, List.nil_append, if_false, if_true, true_and, and_true, forall_const, true_implies, false_implies, or_false, false_or, not_true_eq_false, not_false_eq_true, and_false, false_and, implies_true, Nat.reduceAdd, Nat.reduceEqDiff, Nat.reduceLT, ↓reduceIte, cls_RM_step, st_iload_n, st_ifCond, st_aload_n, st_getfield, st_if_icmp, st_iconst, st_ireturn, st_tableswitch, st_iaload, (show mRM_step.2.2.1 = 3 from rfl), gF_RM_44, gF_RM_141, gF_RM_144, gF_RM_147, gF_RM_150, gF_RM_153, dRM_step_0, dRM_step_1, tg_1_14, tz_1_14, dRM_step_4, dRM_step_5, dRM_step_6, dRM_step_9, dRM_step_12, tg_12_5, tz_12_5, dRM_step_15, ic_m1, dRM_step_16, dRM_step_17, dRM_step_18, tg_18_70, tz_18_70, tg_18_30, tz_18_30, tg_18_40, tz_18_40, tg_18_50, tz_18_50, tg_18_60, tz_18_60, dRM_step_48, dRM_step_49, dRM_step_52, dRM_step_55, dRM_step_56, dRM_step_57, dRM_step_58, dRM_step_59, dRM_step_62, dRM_step_65, dRM_step_66, dRM_step_67, dRM_step_68, dRM_step_69, dRM_step_72, dRM_step_75, dRM_step_76, dRM_step_77, dRM_step_78, dRM_step_79, dRM_step_82, dRM_step_85, dRM_step_86, dRM_step_87, dRM_step_88, dRM_step_89, k0, q0, q2, q3, q4, q5, fRM, fPR, c1, c2, Int.reduceAdd]
    refine ⟨by decide, fun z => ?_, fun z => ⟨⟨hcI, vk⟩, ?_⟩, fun z => ⟨⟨hcI, vk⟩, ?_⟩, fun z => ⟨⟨hcI, vk⟩, ?_⟩, fun z => ⟨⟨hcI, vk⟩, ?_⟩⟩
    · rw [if_neg (by omega), if_neg (by omega), if_neg (by omega), if_neg (by omega)]
      exact ⟨rfl, rfl⟩
    · rw [if_pos z]
      exact ⟨rfl, rfl⟩
    · rw [if_neg (by omega), if_pos z]
      exact ⟨rfl, rfl⟩
    · rw [if_neg (by omega), if_neg (by omega), if_pos z]
      exact ⟨rfl, rfl⟩
    · rw [if_neg (by omega), if_neg (by omega), if_neg (by omega), if_pos z]
      exact ⟨rfl, rfl⟩
  · rw [if_neg (fun z => c2 z.2)]
    refine gw_ev (T := gT0) 60 [] gRt_m (gTO_0 _ _ _ ⟨Nat.le_refl _, Nat.le_refl _⟩) ?_
    simp only [vc_i, vc_l, vc_r, vc_n, Nat.succ_ne_self, gSd_s, gEd_s, gEd_0, gEd_B, gB_t, gB_f, gGo_c, gGo_n, gAll_n, gAll_c, gwK_s, gCT, gCF, gSet, gSet2, gKill, gTw, gTs, gLs, List.map_cons, List.map_nil, fv0, fv1, fv2, fv3, List.getElem?_cons_zero, List.getElem?_cons_succ, List.set_cons_zero, List.set_cons_succ, List.not_mem_nil, List.mem_cons, Option.toList_some, Option.toList_none, List.cons_append, List.nil_append, if_false, if_true, true_and, and_true, forall_const, true_implies, false_implies, or_false, false_or, not_true_eq_false, not_false_eq_true, and_false, false_and, implies_true, Nat.reduceAdd, Nat.reduceEqDiff, Nat.reduceLT, ↓reduceIte, cls_RM_step, st_iload_n, st_ifCond, st_aload_n, st_getfield, st_if_icmp, st_iconst, st_ireturn, st_tableswitch, st_iaload, (show mRM_step.2.2.1 = 3 from rfl), gF_RM_44, gF_RM_141, gF_RM_144, gF_RM_147, gF_RM_150, gF_RM_153, dRM_step_0, dRM_step_1, tg_1_14, tz_1_14, dRM_step_4, dRM_step_5, dRM_step_6, dRM_step_9, dRM_step_12, tg_12_5, tz_12_5, dRM_step_15, ic_m1, dRM_step_16, dRM_step_17, dRM_step_18, tg_18_70, tz_18_70, tg_18_30, tz_18_30, tg_18_40, tz_18_40, tg_18_50, tz_18_50, tg_18_60, tz_18_60, dRM_step_48, dRM_step_49, dRM_step_52, dRM_step_55, dRM_step_56, dRM_step_57, dRM_step_58, dRM_step_59, dRM_step_62, dRM_step_65, dRM_step_66, dRM_step_67, dRM_step_68, dRM_step_69, dRM_step_72, dRM_step_75, dRM_step_76, dRM_step_77, dRM_step_78, dRM_step_79, dRM_step_82, dRM_step_85, dRM_step_86, dRM_step_87, dRM_step_88, dRM_step_89, k0, q0, fRM, fPR, c1, c2]
    exact rfl
set_option maxRecDepth 100000 in
set_option maxHeartbeats 4000000 in
theorem c_RM_may (l : Launch) (g : gG) (cL cI : ClassId) (hcI : (cI, FieldType.int) ∈ g.2.1) (N K : Nat) (hN : N ≤ 5) (hK : K ≤ 3) (M : Nat → Nat) (s : RMS) (h : gH) (hI : isRM cL cI N K M s h) (x : Int32) : gC l g mRM_may (gr 2) [.ref (M 0), .int x] h (fun r h' => r = some (.int (if thingB (nI N) (nI K) x = true then s.2.2.1.1 x.toNatClampNeg else 0)) ∧ h' = h) := by
  obtain ⟨k0, _, _, ⟨p1, p2, p3, p4, p5, p0⟩, _⟩ := hI
  have q0 : h (M 21) = some (.inr (2, fPR (nI N) (nI (N * K)) (fun i => M (21 + i)) (nI s.2.2.1.2.2.2.2.2.1) s.2.2.1.2.2.2.2.2.2.1 s.2.2.1.2.2.2.2.2.2.2)) := p0
  have q1 : h (M (21 + 1)) = some (.inl (cI, 40, .inl s.2.2.1.1)) := p1
  refine gC_of (lv0 := [some (.ref (M 0)), some (.int x)]) (by decide +kernel) (Nat.le_of_ble_eq_true rfl) (fun q hq => hq) ⟨rfl, rfl⟩ ?_
  cases c : thingB (nI N) (nI K) x with
  | true =>
    obtain ⟨y, _, _, _, v⟩ := thing40 hN hK c
    refine gw_ev (T := gT2m) 60 [] gRt_m ⟨2, kgT2m, gr_ge (by first | decide | omega), ⟨Nat.le_refl _, Nat.le_refl _⟩⟩ ?_
    simp only [vc_i, vc_l, vc_r, vc_n, Nat.succ_ne_self, gSd_s, gEd_s, gEd_0, gEd_B, gB_t, gB_f, gGo_c, gGo_n, gAll_n, gAll_c, gwK_s, gCT, gCF, gSet, gSet2, gKill, gTw, gTs, gLs, List.map_cons, List.map_nil, fv0, fv1, fv2, fv3, List.getElem?_cons_zero, List.getElem?_cons_succ, List.set_cons_zero, List.set_cons_succ, List.not_mem_nil, List.mem_cons, Option.toList_some, Option.toList_none, List.cons_append, List.nil_append, if_false, if_true, true_and, and_true, forall_const, true_implies, false_implies, or_false, false_or, not_true_eq_false, not_false_eq_true, and_false, false_and, implies_true, Nat.reduceAdd, Nat.reduceEqDiff, Nat.reduceLT, ↓reduceIte, cls_RM_may, st_aload_n, st_iload_n, st_invokevirtual, st_ifCond, st_getfield, st_iaload, st_goto, st_iconst, st_ireturn, (show mRM_may.2.2.1 = 2 from rfl), tn_RM_127, gT2m_18, gp_RM_isThing, ms_18, gCs_n, gCs_c, Nat.reduceLeDiff, gF_RM_44, gF_RM_156, dRM_may_0, dRM_may_1, dRM_may_2, dRM_may_5, tg_5_15, tz_5_15, dRM_may_8, dRM_may_9, dRM_may_12, dRM_may_15, dRM_may_16, dRM_may_17, tg_17_4, tz_17_4, dRM_may_20, ic_0, dRM_may_21, k0, q0, q1, fRM, fPR, c, bI_t, oz]
    exact ⟨⟨hcI, v⟩, rfl⟩
  | false =>
    refine gw_ev (T := gT2m) 60 [] gRt_m ⟨2, kgT2m, gr_ge (by first | decide | omega), ⟨Nat.le_refl _, Nat.le_refl _⟩⟩ ?_
    simp only [vc_i, vc_l, vc_r, vc_n, Nat.succ_ne_self, gSd_s, gEd_s, gEd_0, gEd_B, gB_t, gB_f, gGo_c, gGo_n, gAll_n, gAll_c, gwK_s, gCT, gCF, gSet, gSet2, gKill, gTw, gTs, gLs, List.map_cons, List.map_nil, fv0, fv1, fv2, fv3, List.getElem?_cons_zero, List.getElem?_cons_succ, List.set_cons_zero, List.set_cons_succ, List.not_mem_nil, List.mem_cons, Option.toList_some, Option.toList_none, List.cons_append, List.nil_append, if_false, if_true, true_and, and_true, forall_const, true_implies, false_implies, or_false, false_or, not_true_eq_false, not_false_eq_true, and_false, false_and, implies_true, Nat.reduceAdd, Nat.reduceEqDiff, Nat.reduceLT, ↓reduceIte, cls_RM_may, st_aload_n, st_iload_n, st_invokevirtual, st_ifCond, st_getfield, st_iaload, st_goto, st_iconst, st_ireturn, (show mRM_may.2.2.1 = 2 from rfl), tn_RM_127, gT2m_18, gp_RM_isThing, ms_18, gCs_n, gCs_c, Nat.reduceLeDiff, gF_RM_44, gF_RM_156, dRM_may_0, dRM_may_1, dRM_may_2, dRM_may_5, tg_5_15, tz_5_15, dRM_may_8, dRM_may_9, dRM_may_12, dRM_may_15, dRM_may_16, dRM_may_17, tg_17_4, tz_17_4, dRM_may_20, ic_0, dRM_may_21, k0, fRM, c, bI_f]
    exact ⟨rfl, rfl⟩
set_option maxRecDepth 100000 in
set_option maxHeartbeats 4000000 in
theorem c_RM_prove (l : Launch) (g : gG) (cL cI : ClassId) (hcI : (cI, FieldType.int) ∈ g.2.1) (N K : Nat) (hN : 0 < N ∧ N ≤ 5) (hK : K ≤ 3) (M : Nat → Nat) (hM : apU M 32) (s : RMS) (h : gH) (hI : isRM cL cI N K M s h) : gC l g mRM_prove (gr 5) [.ref (M 0)] h (fun r h' => r = some (.int (nI (runF N K s.1.1 s.1.2 s.2.2.1).2.2.2.2.2.1)) ∧ isRM cL cI N K M (s.1, s.2.1, runF N K s.1.1 s.1.2 s.2.2.1, s.2.2.2) h' ∧ ∀ q, (∀ i, i < 32 → q ≠ M i) → h' q = h q) := by
  have ne : ∀ {i j : Nat}, i < 32 → j < 32 → i ≠ j → M i ≠ M j := fun hi hj n => apU_ne hM hi hj n
  obtain ⟨k0, i2, ⟨a1, a2, a3, a4⟩, i4, i5⟩ := hI
  have hP : apP (fun i => M (21 + i)) := by
    refine ⟨?_, ?_, ?_, ?_, ?_, ?_, ?_, ?_, ?_, ?_, ?_, ?_, ?_, ?_, ?_⟩ <;> exact ne (by omega) (by omega) (by omega)
  have hC := c_PR_run l g cI hcI (fun i => M (21 + i)) hP N K s.1.1 (M 1) (M 2) hN hK s.1.2 s.2.2.1 h i2 (fun i hi => ne (by omega) (by omega) (by omega)) (fun i hi => ne (by omega) (by omega) (by omega))
  rw [isPR_h i4] at hC
  obtain ⟨t, ht⟩ : ∃ t, t = runF N K s.1.1 s.1.2 s.2.2.1 := ⟨_, rfl⟩
  rw [← ht] at hC ⊢
  have p0 : h (M 21) = some (.inr (2, fPR (nI N) (nI (N * K)) (fun i => M (21 + i)) (nI s.2.2.1.2.2.2.2.2.1) s.2.2.1.2.2.2.2.2.2.1 s.2.2.1.2.2.2.2.2.2.2)) := i4.2.2.2.2.2
  refine gC_of (lv0 := [some (.ref (M 0))]) (by decide +kernel) (Nat.le_of_ble_eq_true rfl) (fun q hq => hq) ⟨rfl, rfl⟩ ?_
  refine gw_ev (T := gT0) 60 [] gRt_m (gTO_0 _ _ _ ⟨Nat.le_refl _, Nat.le_refl _⟩) ?_
  simp only [vc_i, vc_l, vc_r, vc_n, Nat.succ_ne_self, gSd_s, gEd_s, gEd_0, gEd_B, gB_t, gB_f, gGo_c, gGo_n, gAll_n, gAll_c, gwK_s, gCT, gCF, gSet, gSet2, gKill, gTw, gTs, gLs, List.map_cons, List.map_nil, fv0, fv1, fv2, fv3, List.getElem?_cons_zero, List.getElem?_cons_succ, List.set_cons_zero, List.set_cons_succ, List.not_mem_nil, List.mem_cons, Option.toList_some, Option.toList_none, List.cons_append, List.nil_append, if_false, if_true, true_and, and_true, forall_const, true_implies, false_implies, or_false, false_or, not_true_eq_false, not_false_eq_true, and_false, false_and, implies_true, Nat.reduceAdd, Nat.reduceEqDiff, Nat.reduceLT, ↓reduceIte, cls_RM_prove, st_aload_n, st_getfield, st_invokevirtual, st_ireturn, (show mRM_prove.2.2.1 = 1 from rfl), gF_RM_44, gF_RM_28, tn_RM_137, (show gT0 29 = none from rfl), gF_RM_141, dRM_prove_0, dRM_prove_1, dRM_prove_4, dRM_prove_5, dRM_prove_8, dRM_prove_11, dRM_prove_12, dRM_prove_15, dRM_prove_18, k0, fRM]
  refine gw_cV (r := []) dRM_prove_8 (hC) rfl (p0) rfl wc_PR_run wl_RM_137 wi_PR_run ws_PR_run wn_PR (by show _ ∧ _ ∧ _ = some 1; decide +kernel) (by decide) (gr_ge (by first | decide | omega)) (Nat.le_of_ble_eq_true rfl) ⟨Nat.le_refl _, Nat.le_refl _⟩ ?_
  obtain ⟨h2, hh2⟩ : ∃ h2, h2 = hPR cI (fun i => M (21 + i)) (nI N) (nI (N * K)) t h := ⟨_, rfl⟩
  rw [← hh2]
  have b4 : isPR cI N K (fun i => M (21 + i)) t h2 := by rw [hh2]; exact isPR_of hP
  have fr : ∀ q, (∀ i, i < 6 → q ≠ M (21 + i)) → h2 q = h q := fun q n => by rw [hh2]; exact hPRx n
  have q0 : h2 (M 0) = some (.inr (5, fRM N K M)) := (fr _ (fun i hi => ne (by omega) (by omega) (by omega))).trans k0
  have q1 : h2 (M 21) = some (.inr (2, fPR (nI N) (nI (N * K)) (fun i => M (21 + i)) (nI t.2.2.2.2.2.1) t.2.2.2.2.2.2.1 t.2.2.2.2.2.2.2)) := b4.2.2.2.2.2
  have hEnd : isRM cL cI N K M (s.1, s.2.1, t, s.2.2.2) h2 := by
    refine ⟨q0, isCL_fr (fr _ (fun i hi => ne (by omega) (by omega) (by omega))) (fr _ (fun i hi => ne (by omega) (by omega) (by omega))) i2, ⟨isMA_fr (fun i hi => fr _ (fun j hj => ne (by omega) (by omega) (by omega))) a1, isCL_fr (fr _ (fun i hi => ne (by omega) (by omega) (by omega))) (fr _ (fun i hi => ne (by omega) (by omega) (by omega))) a2, isWO_fr (fun i hi => fr _ (fun j hj => ne (by omega) (by omega) (by omega))) a3, isPR_fr (fun i hi => fr _ (fun j hj => ne (by omega) (by omega) (by omega))) a4⟩, b4, isSP_fr (fun i hi => fr _ (fun j hj => ne (by omega) (by omega) (by omega))) i5⟩
  refine gw_ev (T := gT0) 60 [] gRt_m (gTO_0 _ _ _ ⟨Nat.le_refl _, Nat.le_refl _⟩) ?_
  simp only [vc_i, vc_l, vc_r, vc_n, Nat.succ_ne_self, gSd_s, gEd_s, gEd_0, gEd_B, gB_t, gB_f, gGo_c, gGo_n, gAll_n, gAll_c, gwK_s, gCT, gCF, gSet, gSet2, gKill, gTw, gTs, gLs, List.map_cons, List.map_nil, fv0, fv1, fv2, fv3, List.getElem?_cons_zero, List.getElem?_cons_succ, List.set_cons_zero, List.set_cons_succ, List.not_mem_nil, List.mem_cons, Option.toList_some, Option.toList_none, List.cons_append, List.nil_append, if_false, if_true, true_and, and_true, forall_const, true_implies, false_implies, or_false, false_or, not_true_eq_false, not_false_eq_true, and_false, false_and, implies_true, Nat.reduceAdd, Nat.reduceEqDiff, Nat.reduceLT, ↓reduceIte, cls_RM_prove, st_aload_n, st_getfield, st_invokevirtual, st_ireturn, (show mRM_prove.2.2.1 = 1 from rfl), gF_RM_44, gF_RM_28, tn_RM_137, (show gT0 29 = none from rfl), gF_RM_141, dRM_prove_0, dRM_prove_1, dRM_prove_4, dRM_prove_5, dRM_prove_8, dRM_prove_11, dRM_prove_12, dRM_prove_15, dRM_prove_18, q0, q1, fRM, fPR]
  exact ⟨rfl, hEnd, fun q n => fr q (fun i hi => n _ (by omega))⟩
