-- needs 10 11 12 13 14 15 16 17 18 18d 21 30 31 40 50 53 60 62
set_option maxRecDepth 100000 in
theorem c_RF_draw (l : Launch) (g : gG) (o k v : Nat) (hk : 0 < k ∧ k < 2 ^ 31) (hv : v < 2147483647) (fs : List Value) (h : gH) (ho : h o = some (.inr (6, fs))) (hlen : fs.length = 33) (f26 : fs[26]? = some (.long (lN v))) : gC l g mRF_draw (gr 0) [.ref o, .int (nI k)] h (fun r h' => r = some (.int (nI (drN v % k))) ∧ h' = gup h o (.inr (6, fs.set 26 (.long (lN (drN v)))))) := by
  have e1 : (48271 : Int64) * lN v = lN (48271 * v) := lN_mul 48271 v
  have e2 : lN (48271 * v) - lN (48271 * v) / 2147483647 * 2147483647 = lN (drN v) := pk_lRem (a := 48271 * v) (b := 2147483647) (by omega) (by omega) (by omega)
  have hd : drN v < 2147483647 := Nat.mod_lt _ (by omega)
  have e3 : (nI k).toInt64 = lN k := nI_l hk.2
  have e4 : lN (drN v) - lN (drN v) / lN k * lN k = lN (drN v % k) := pk_lRem (by omega) hk.1 (by omega)
  have z1 : ¬ (2147483647 : Int64) = 0 := by decide
  have z2 : ¬ lN k = 0 := fun z => by
    have : lN k = lN 0 := z
    rw [pk_lEQ (by omega) (by omega)] at this
    omega
  have hs : ∀ w : Value, (fs.set 26 w)[26]? = some w := fun w => List.getElem?_set_self (by omega)
  refine gC_of (lv0 := [some (.ref o), some (.int (nI k))]) (by decide +kernel) (Nat.le_of_ble_eq_true rfl) (fun q hq => hq) ⟨rfl, rfl⟩ ?_
  refine gw_ev (T := gT0) 60 [] gRt_m (gTO_0 _ _ _ ⟨Nat.le_refl _, Nat.le_refl _⟩) ?_
  simp only [vc_i, vc_l, vc_r, vc_n, Nat.succ_ne_self, gSd_s, gEd_s, gEd_0, gEd_B, gB_t, gB_f, gGo_c, gGo_n, gAll_n, gAll_c, gwK_s, gCT, gCF, gSet, gSet2, gKill, gTw, gTs, gLs, List.map_cons, List.map_nil, fv0, fv1, fv2, fv3, List.getElem?_cons_zero, List.getElem?_cons_succ, List.set_cons_zero, List.set_cons_succ, List.not_mem_nil, List.mem_cons, Option.toList_some, Option.toList_none, List.cons_append, List.nil_append, if_false, if_true, true_and, and_true, forall_const, true_implies, false_implies, or_false, false_or, not_true_eq_false, not_false_eq_true, and_false, false_and, implies_true, Nat.reduceAdd, Nat.reduceEqDiff, Nat.reduceLT, ↓reduceIte, cls_RF_draw, st_aload_n, st_ldc2_w, st_getfield, st_lmul, st_lrem, st_putfield, st_iload_n, st_i2l, st_l2i, st_ireturn, (show mRF_draw.2.2.1 = 2 from rfl), kl_RF_205, gF_RF_207, kl_RF_211, fp_RF_draw_207, dRF_draw_0, dRF_draw_1, dRF_draw_4, dRF_draw_5, dRF_draw_8, dRF_draw_9, dRF_draw_12, dRF_draw_13, dRF_draw_16, dRF_draw_17, dRF_draw_20, dRF_draw_21, dRF_draw_22, dRF_draw_23, dRF_draw_24, ho, f26, hlen, gup_s, hs, e1, e2, e3, e4, lN_i]
  exact ⟨z1, fit_l _, z2, rfl⟩
def laI (od : Nat → Int32) (b q : Nat) (pl : Nat → Int32) (i : Nat) : Nat → Int32 := upd pl (b + i) (od (5 * q + i))
def laS (N D : Nat) (od : Nat → Int32) (st : Nat × (Nat → Int32)) (s : Nat) : Nat × (Nat → Int32) := (st.1 / D, (segF id N 0).foldl (laI od (5 * s) (st.1 % D)) st.2)
def laF (N K D : Nat) (od : Nat → Int32) (w : Nat) (pl : Nat → Int32) : Nat → Int32 := ((segF id K 0).foldl (laS N D od) (w, pl)).2
theorem l5 (x : Nat) : (5 : Int32) * nI x = nI (5 * x) := pk_mul 5 x
set_option maxRecDepth 100000 in
set_option maxHeartbeats 2000000 in
theorem c_RF_lay (l : Launch) (g : gG) (cI : ClassId) (hcI : (cI, FieldType.int) ∈ g.2.1) (o pA oA N K D w : Nat) (hN : N ≤ 5) (hK : K ≤ 3) (hD : 0 < D ∧ D ≤ 120) (hw : w < 2 ^ 31) (fs : List Value) (od pl0 : Nat → Int32) (h : gH) (ho : h o = some (.inr (6, fs))) (f2 : fs[2]? = some (.int (nI N))) (f3 : fs[3]? = some (.int (nI K))) (f4 : fs[4]? = some (.int (nI D))) (f5 : fs[5]? = some (.ref oA)) (f10 : fs[10]? = some (.ref pA)) (hod : h oA = some (.inl (cI, 600, .inl od))) (hpl : h pA = some (.inl (cI, 15, .inl pl0))) (x1 : o ≠ pA) (x2 : oA ≠ pA) : gC l g mRF_lay (gr 0) [.ref o, .int (nI w)] h (fun r h' => r = none ∧ h' = gup h pA (.inl (cI, 15, .inl (laF N K D od w pl0)))) := by
  obtain ⟨T, hT⟩ : ∃ T, T = laF N K D od w pl0 := ⟨_, rfl⟩
  rw [← hT]
  have zD : ¬ nI D = 0 := nI_ne0 hD.1 (by omega)
  have sorts : ∀ (m s left : Nat) (pl : Nat → Int32) (H : gH), s + m = K → left < 2 ^ 31 → H = gup h pA (.inl (cI, 15, .inl pl)) → ((segF id m s).foldl (laS N D od) (left, pl)).2 = T → gw l g mRF_lay (gr 0) h (gZm g h 0 0 (fun r h' => r = none ∧ h' = gup h pA (.inl (cI, 15, .inl T)))) 0 0 4 [some (.ref o), some (.int (nI w)), some (.int (nI left)), some (.int (nI s)), none] [] H := by
    intro m
    induction m with
    | zero =>
      intro s left pl H hs hl hH hb
      have k0 : H o = some (.inr (6, fs)) := by rw [hH, gup_n _ _ x1]; exact ho
      have hz : nI K ≤ nI s := nI_le (by omega) (by omega)
      have hb2 : pl = T := hb
      refine gw_ev (T := gT0) 60 [4, 15] gRt_m (gTO_0 _ _ _ ⟨Nat.le_refl _, Nat.le_refl _⟩) ?_
      simp only [vc_i, vc_l, vc_r, vc_n, Nat.succ_ne_self, gSd_s, gEd_s, gEd_0, gEd_B, gB_t, gB_f, gGo_c, gGo_n, gAll_n, gAll_c, gwK_s, gCT, gCF, gSet, gSet2, gKill, gTw, gTs, gLs, List.map_cons, List.map_nil, fv0, fv1, fv2, fv3, List.getElem?_cons_zero, List.getElem?_cons_succ, List.set_cons_zero, List.set_cons_succ, List.not_mem_nil, List.mem_cons, Option.toList_some, Option.toList_none, List.cons_append, List.nil_append, if_false, if_true, true_and, and_true, forall_const, true_implies, false_implies, or_false, false_or, not_true_eq_false, not_false_eq_true, and_false, false_and, implies_true, Nat.reduceAdd, Nat.reduceEqDiff, Nat.reduceLT, ↓reduceIte, cls_RF_lay, st_iload_n, st_istore_n, st_iconst, st_aload_n, st_getfield, st_if_icmp, st_istore, st_iload, st_imul, st_iadd, st_irem, st_iaload, st_iastore, st_iinc, st_goto, st_idiv, st_return_, (show mRF_lay.2.2.1 = 5 from rfl), gF_RF_88, gF_RF_85, gF_RF_53, gF_RF_43, gF_RF_91, dRF_lay_0, dRF_lay_1, dRF_lay_2, ic_0, dRF_lay_3, dRF_lay_4, dRF_lay_5, dRF_lay_6, dRF_lay_9, tg_9_61, tz_9_61, dRF_lay_12, dRF_lay_13, dRF_lay_15, dRF_lay_17, dRF_lay_18, dRF_lay_21, tg_21_36, tz_21_36, dRF_lay_24, dRF_lay_25, dRF_lay_28, ic_5, dRF_lay_29, dRF_lay_30, dRF_lay_31, dRF_lay_33, dRF_lay_34, dRF_lay_35, dRF_lay_38, dRF_lay_39, dRF_lay_40, dRF_lay_41, dRF_lay_44, dRF_lay_45, dRF_lay_46, dRF_lay_48, dRF_lay_49, dRF_lay_50, dRF_lay_51, ic_1, dRF_lay_54, tg_54_m39, tz_54_m39, dRF_lay_57, dRF_lay_58, dRF_lay_59, dRF_lay_62, dRF_lay_63, dRF_lay_64, dRF_lay_67, tg_67_m63, tz_67_m63, dRF_lay_70, k0, f3, hz]
      rw [hH, hb2]
      exact ⟨rfl, rfl⟩
    | succ m ih =>
      intro s left pl H hs hl hH hb
      have k0 : H o = some (.inr (6, fs)) := by rw [hH, gup_n _ _ x1]; exact ho
      have hz : ¬ nI K ≤ nI s := nI_ge (by omega) (by omega)
      have hb2 : ((segF id m (s + 1)).foldl (laS N D od) (left / D, (segF id N 0).foldl (laI od (5 * s) (left % D)) pl)).2 = T := hb
      obtain ⟨U, hU⟩ : ∃ U, U = (segF id N 0).foldl (laI od (5 * s) (left % D)) pl := ⟨_, rfl⟩
      rw [← hU] at hb2
      have hq : left % D < D := Nat.mod_lt _ hD.1
      have hr : nI left - nI left / nI D * nI D = nI (left % D) := pk_rem hl hD.1 (by omega)
      have hdv : nI left / nI D = nI (left / D) := pk_div hl hD.1 (by omega)
      have hr2 : nI left - nI (left / D) * nI D = nI (left % D) := by rw [← hdv]; exact hr
      have hdl : left / D < 2 ^ 31 := Nat.lt_of_le_of_lt (Nat.div_le_self _ _) hl
      have inner : ∀ (m2 i : Nat) (pl2 : Nat → Int32) (H2 : gH), i + m2 = N → H2 = gup h pA (.inl (cI, 15, .inl pl2)) → (segF id m2 i).foldl (laI od (5 * s) (left % D)) pl2 = U → gw l g mRF_lay (gr 0) h (gZm g h 0 0 (fun r h' => r = none ∧ h' = gup h pA (.inl (cI, 15, .inl T)))) 0 0 15 [some (.ref o), some (.int (nI w)), some (.int (nI left)), some (.int (nI s)), some (.int (nI i))] [] H2 := by
        intro m2
        induction m2 with
        | zero =>
          intro i pl2 H2 hi hH2 hb3
          have j0 : H2 o = some (.inr (6, fs)) := by rw [hH2, gup_n _ _ x1]; exact ho
          have hz2 : nI N ≤ nI i := nI_le (by omega) (by omega)
          have hb4 : pl2 = U := hb3
          rw [← hb4] at hb2
          refine gw_ev (T := gT0) 60 [4, 15] gRt_m (gTO_0 _ _ _ ⟨Nat.le_refl _, Nat.le_refl _⟩) ?_
          simp only [vc_i, vc_l, vc_r, vc_n, Nat.succ_ne_self, gSd_s, gEd_s, gEd_0, gEd_B, gB_t, gB_f, gGo_c, gGo_n, gAll_n, gAll_c, gwK_s, gCT, gCF, gSet, gSet2, gKill, gTw, gTs, gLs, List.map_cons, List.map_nil, fv0, fv1, fv2, fv3, List.getElem?_cons_zero, List.getElem?_cons_succ, List.set_cons_zero, List.set_cons_succ, List.not_mem_nil, List.mem_cons, Option.toList_some, Option.toList_none, List.cons_append, List.nil_append, if_false, if_true, true_and, and_true, forall_const, true_implies, false_implies, or_false, false_or, not_true_eq_false, not_false_eq_true, and_false, false_and, implies_true, Nat.reduceAdd, Nat.reduceEqDiff, Nat.reduceLT, ↓reduceIte, cls_RF_lay, st_iload_n, st_istore_n, st_iconst, st_aload_n, st_getfield, st_if_icmp, st_istore, st_iload, st_imul, st_iadd, st_irem, st_iaload, st_iastore, st_iinc, st_goto, st_idiv, st_return_, (show mRF_lay.2.2.1 = 5 from rfl), gF_RF_88, gF_RF_85, gF_RF_53, gF_RF_43, gF_RF_91, dRF_lay_0, dRF_lay_1, dRF_lay_2, ic_0, dRF_lay_3, dRF_lay_4, dRF_lay_5, dRF_lay_6, dRF_lay_9, tg_9_61, tz_9_61, dRF_lay_12, dRF_lay_13, dRF_lay_15, dRF_lay_17, dRF_lay_18, dRF_lay_21, tg_21_36, tz_21_36, dRF_lay_24, dRF_lay_25, dRF_lay_28, ic_5, dRF_lay_29, dRF_lay_30, dRF_lay_31, dRF_lay_33, dRF_lay_34, dRF_lay_35, dRF_lay_38, dRF_lay_39, dRF_lay_40, dRF_lay_41, dRF_lay_44, dRF_lay_45, dRF_lay_46, dRF_lay_48, dRF_lay_49, dRF_lay_50, dRF_lay_51, ic_1, dRF_lay_54, tg_54_m39, tz_54_m39, dRF_lay_57, dRF_lay_58, dRF_lay_59, dRF_lay_62, dRF_lay_63, dRF_lay_64, dRF_lay_67, tg_67_m63, tz_67_m63, dRF_lay_70, j0, f2, f4, hz2, hdv, zD, nI_1]
          exact gw_less (lv' := [some (.ref o), some (.int (nI w)), some (.int (nI (left / D))), some (.int (nI (s + 1))), none]) (by simp [gLe]) (ih (s + 1) (left / D) pl2 H2 (by omega) hdl hH2 hb2)
        | succ m2 ih2 =>
          intro i pl2 H2 hi hH2 hb3
          have j0 : H2 o = some (.inr (6, fs)) := by rw [hH2, gup_n _ _ x1]; exact ho
          have j1 : H2 pA = some (.inl (cI, 15, .inl pl2)) := by rw [hH2, gup_s]
          have j2 : H2 oA = some (.inl (cI, 600, .inl od)) := by rw [hH2, gup_n _ _ x2]; exact hod
          have hz2 : ¬ nI N ≤ nI i := nI_ge (by omega) (by omega)
          have c1 : (nI (5 * s + i)).toNatClampNeg = 5 * s + i := nI_clamp (by omega)
          have v1 : vp_in (nI (5 * s + i)) 15 := vp_in_nI (by omega) (by omega)
          have c2 : (nI (5 * (left % D) + i)).toNatClampNeg = 5 * (left % D) + i := nI_clamp (by omega)
          have v2 : vp_in (nI (5 * (left % D) + i)) 600 := vp_in_nI (by omega) (by omega)
          refine gw_ev (T := gT0) 60 [4, 15] gRt_m (gTO_0 _ _ _ ⟨Nat.le_refl _, Nat.le_refl _⟩) ?_
          simp only [vc_i, vc_l, vc_r, vc_n, Nat.succ_ne_self, gSd_s, gEd_s, gEd_0, gEd_B, gB_t, gB_f, gGo_c, gGo_n, gAll_n, gAll_c, gwK_s, gCT, gCF, gSet, gSet2, gKill, gTw, gTs, gLs, List.map_cons, List.map_nil, fv0, fv1, fv2, fv3, List.getElem?_cons_zero, List.getElem?_cons_succ, List.set_cons_zero, List.set_cons_succ, List.not_mem_nil, List.mem_cons, Option.toList_some, Option.toList_none, List.cons_append, List.nil_append, if_false, if_true, true_and, and_true, forall_const, true_implies, false_implies, or_false, false_or, not_true_eq_false, not_false_eq_true, and_false, false_and, implies_true, Nat.reduceAdd, Nat.reduceEqDiff, Nat.reduceLT, ↓reduceIte, cls_RF_lay, st_iload_n, st_istore_n, st_iconst, st_aload_n, st_getfield, st_if_icmp, st_istore, st_iload, st_imul, st_iadd, st_irem, st_iaload, st_iastore, st_iinc, st_goto, st_idiv, st_return_, (show mRF_lay.2.2.1 = 5 from rfl), gF_RF_88, gF_RF_85, gF_RF_53, gF_RF_43, gF_RF_91, dRF_lay_0, dRF_lay_1, dRF_lay_2, ic_0, dRF_lay_3, dRF_lay_4, dRF_lay_5, dRF_lay_6, dRF_lay_9, tg_9_61, tz_9_61, dRF_lay_12, dRF_lay_13, dRF_lay_15, dRF_lay_17, dRF_lay_18, dRF_lay_21, tg_21_36, tz_21_36, dRF_lay_24, dRF_lay_25, dRF_lay_28, ic_5, dRF_lay_29, dRF_lay_30, dRF_lay_31, dRF_lay_33, dRF_lay_34, dRF_lay_35, dRF_lay_38, dRF_lay_39, dRF_lay_40, dRF_lay_41, dRF_lay_44, dRF_lay_45, dRF_lay_46, dRF_lay_48, dRF_lay_49, dRF_lay_50, dRF_lay_51, ic_1, dRF_lay_54, tg_54_m39, tz_54_m39, dRF_lay_57, dRF_lay_58, dRF_lay_59, dRF_lay_62, dRF_lay_63, dRF_lay_64, dRF_lay_67, tg_67_m63, tz_67_m63, dRF_lay_70, j0, j1, j2, f2, f4, f5, f10, hz2, hdv, hr2, zD, l5, nI_add, c1, c2, nI_1]
          refine ⟨⟨hcI, v2⟩, ⟨hcI, v1⟩, ih2 (i + 1) (laI od (5 * s) (left % D) pl2 i) _ (by omega) ?_ hb3⟩
          rw [hH2, gup_up]
          rfl
      have h9 := inner N 0 pl H (by omega) hH hU.symm
      rw [nI_0] at h9
      refine gw_ev (T := gT0) 60 [4, 15] gRt_m (gTO_0 _ _ _ ⟨Nat.le_refl _, Nat.le_refl _⟩) ?_
      simp only [vc_i, vc_l, vc_r, vc_n, Nat.succ_ne_self, gSd_s, gEd_s, gEd_0, gEd_B, gB_t, gB_f, gGo_c, gGo_n, gAll_n, gAll_c, gwK_s, gCT, gCF, gSet, gSet2, gKill, gTw, gTs, gLs, List.map_cons, List.map_nil, fv0, fv1, fv2, fv3, List.getElem?_cons_zero, List.getElem?_cons_succ, List.set_cons_zero, List.set_cons_succ, List.not_mem_nil, List.mem_cons, Option.toList_some, Option.toList_none, List.cons_append, List.nil_append, if_false, if_true, true_and, and_true, forall_const, true_implies, false_implies, or_false, false_or, not_true_eq_false, not_false_eq_true, and_false, false_and, implies_true, Nat.reduceAdd, Nat.reduceEqDiff, Nat.reduceLT, ↓reduceIte, cls_RF_lay, st_iload_n, st_istore_n, st_iconst, st_aload_n, st_getfield, st_if_icmp, st_istore, st_iload, st_imul, st_iadd, st_irem, st_iaload, st_iastore, st_iinc, st_goto, st_idiv, st_return_, (show mRF_lay.2.2.1 = 5 from rfl), gF_RF_88, gF_RF_85, gF_RF_53, gF_RF_43, gF_RF_91, dRF_lay_0, dRF_lay_1, dRF_lay_2, ic_0, dRF_lay_3, dRF_lay_4, dRF_lay_5, dRF_lay_6, dRF_lay_9, tg_9_61, tz_9_61, dRF_lay_12, dRF_lay_13, dRF_lay_15, dRF_lay_17, dRF_lay_18, dRF_lay_21, tg_21_36, tz_21_36, dRF_lay_24, dRF_lay_25, dRF_lay_28, ic_5, dRF_lay_29, dRF_lay_30, dRF_lay_31, dRF_lay_33, dRF_lay_34, dRF_lay_35, dRF_lay_38, dRF_lay_39, dRF_lay_40, dRF_lay_41, dRF_lay_44, dRF_lay_45, dRF_lay_46, dRF_lay_48, dRF_lay_49, dRF_lay_50, dRF_lay_51, ic_1, dRF_lay_54, tg_54_m39, tz_54_m39, dRF_lay_57, dRF_lay_58, dRF_lay_59, dRF_lay_62, dRF_lay_63, dRF_lay_64, dRF_lay_67, tg_67_m63, tz_67_m63, dRF_lay_70, k0, f3, hz]
      exact h9
  refine gC_of (lv0 := [some (.ref o), some (.int (nI w)), none, none, none]) (by decide +kernel) (Nat.le_of_ble_eq_true rfl) (fun q hq => hq) ⟨rfl, rfl⟩ ?_
  have h9 := sorts K 0 w pl0 h (by omega) hw (gup_id hpl).symm hT.symm
  rw [nI_0] at h9
  refine gw_ev (T := gT0) 60 [4, 15] gRt_m (gTO_0 _ _ _ ⟨Nat.le_refl _, Nat.le_refl _⟩) ?_
  simp only [vc_i, vc_l, vc_r, vc_n, Nat.succ_ne_self, gSd_s, gEd_s, gEd_0, gEd_B, gB_t, gB_f, gGo_c, gGo_n, gAll_n, gAll_c, gwK_s, gCT, gCF, gSet, gSet2, gKill, gTw, gTs, gLs, List.map_cons, List.map_nil, fv0, fv1, fv2, fv3, List.getElem?_cons_zero, List.getElem?_cons_succ, List.set_cons_zero, List.set_cons_succ, List.not_mem_nil, List.mem_cons, Option.toList_some, Option.toList_none, List.cons_append, List.nil_append, if_false, if_true, true_and, and_true, forall_const, true_implies, false_implies, or_false, false_or, not_true_eq_false, not_false_eq_true, and_false, false_and, implies_true, Nat.reduceAdd, Nat.reduceEqDiff, Nat.reduceLT, ↓reduceIte, cls_RF_lay, st_iload_n, st_istore_n, st_iconst, st_aload_n, st_getfield, st_if_icmp, st_istore, st_iload, st_imul, st_iadd, st_irem, st_iaload, st_iastore, st_iinc, st_goto, st_idiv, st_return_, (show mRF_lay.2.2.1 = 5 from rfl), gF_RF_88, gF_RF_85, gF_RF_53, gF_RF_43, gF_RF_91, dRF_lay_0, dRF_lay_1, dRF_lay_2, ic_0, dRF_lay_3, dRF_lay_4, dRF_lay_5, dRF_lay_6, dRF_lay_9, tg_9_61, tz_9_61, dRF_lay_12, dRF_lay_13, dRF_lay_15, dRF_lay_17, dRF_lay_18, dRF_lay_21, tg_21_36, tz_21_36, dRF_lay_24, dRF_lay_25, dRF_lay_28, ic_5, dRF_lay_29, dRF_lay_30, dRF_lay_31, dRF_lay_33, dRF_lay_34, dRF_lay_35, dRF_lay_38, dRF_lay_39, dRF_lay_40, dRF_lay_41, dRF_lay_44, dRF_lay_45, dRF_lay_46, dRF_lay_48, dRF_lay_49, dRF_lay_50, dRF_lay_51, ic_1, dRF_lay_54, tg_54_m39, tz_54_m39, dRF_lay_57, dRF_lay_58, dRF_lay_59, dRF_lay_62, dRF_lay_63, dRF_lay_64, dRF_lay_67, tg_67_m63, tz_67_m63, dRF_lay_70]
  exact h9
