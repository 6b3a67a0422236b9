-- needs 10 11 12 13 14 15 16 17 18 18d 19 21 30 31 40 50 53 60 61 62 63 64 65 66 67 68 73 80 81 82 83 84
def cpF (src dst : Nat → Int32) (m : Nat) : Nat → Int32 := fun j => if j < m then src j else dst j
theorem cpF_0 (src dst : Nat → Int32) : cpF src dst 0 = dst := by
  funext j
  exact if_neg (by omega)
theorem cpF_s (src dst : Nat → Int32) (m : Nat) : upd (cpF src dst m) m (src m) = cpF src dst (m + 1) := by
  funext j
  by_cases h1 : j = m
  · rw [h1]
    have h2 : cpF src dst (m + 1) m = src m := if_pos (by omega)
    rw [h2]
    exact if_pos rfl
  · have h2 : upd (cpF src dst m) m (src m) j = cpF src dst m j := if_neg h1
    rw [h2]
    unfold cpF
    by_cases h3 : j < m
    · rw [if_pos h3, if_pos (by omega)]
    · rw [if_neg h3, if_neg (by omega)]
def rmxS (st : Nat → Int32) (a : Int32) (k : Nat) : Int32 := if st (4 * k) ≤ a then a else st (4 * k)
def solQ (gd : Nat → Int32) (n : Nat) : Nat → Bool := fun t => decide (t % 5 < n ∧ ¬ sizeF (gd t) = 1)
def ratF (n K : Nat) (w : WK) : Int32 := if (segF id (5 * K) 0).any (solQ w.1 n) = true then 0 else (segF id w.2.2 0).foldl (rmxS w.2.1) 0
set_option maxRecDepth 100000 in
set_option maxHeartbeats 8000000 in
theorem c_RF_rated (l : Launch) (g : gG) (cI : ClassId) (hcI : (cI, FieldType.int) ∈ g.2.1) (o cA gA sA n K c : Nat) (hn : 1 ≤ n ∧ n ≤ 5) (hK : K ≤ 3) (hc9 : c ≤ 30) (fs : List Value) (hlen : fs.length = 33) (cl : Nat → Int32) (hok : ∀ rule k, k < c → isOfB (nI rule) (cl (6 * k)) (cl (6 * k + 5)) = true → rule = 3 ∨ rule = 5 → okR cl k) (w0 : WK) (h H0 : gH) (hH0 : H0 = hWK cI o gA sA fs w0 h) (f2 : fs[2]? = some (.int (nI n))) (f3 : fs[3]? = some (.int (nI K))) (f6 : fs[6]? = some (.int (nI c))) (f8 : fs[8]? = some (.ref cA)) (f13 : fs[13]? = some (.ref sA)) (f15 : fs[15]? = some (.ref gA)) (hc : h cA = some (.inl (cI, 186, .inl cl))) (hap : ap3 o gA sA) (y1 : cA ≠ o) (y2 : cA ≠ gA) (y3 : cA ≠ sA) : gC l g mRF_rated (gr 7) [.ref o] H0 (fun r h' => r = some (.int (ratF n K (wkF n K c cl 76 (wk0 n w0)))) ∧ h' = hWK cI o gA sA fs (wkF n K c cl 76 (wk0 n w0)) h) := by
  have s : ∀ (i : Nat) (v : Value), 11 ≠ i → (fs.set 11 v)[i]? = fs[i]? := fun i v q => List.getElem?_set_ne q
  have s11 : ∀ v : Value, (fs.set 11 v)[11]? = some v := fun v => List.getElem?_set_self (by omega)
  obtain ⟨w, hw⟩ : ∃ w, w = wkF n K c cl 76 (wk0 n w0) := ⟨_, rfl⟩
  have hws : w.2.2 ≤ 75 := by
    obtain ⟨q1, q2⟩ := wkF_ok (n := n) (K := K) (c := c) (cl := cl) hn.2 hK 76 (wk0 n w0) (wk0_ok hn.2 w0)
    have q3 := msG_le (wk0 n w0).1
    have q4 : (wk0 n w0).2.2 = 0 := rfl
    rw [hw]
    omega
  have cw := c_RF_work l g cI hcI o cA gA sA n K c hn hK hc9 fs hlen cl hok w0 h H0 hH0 f2 f3 f6 f8 f13 f15 hc hap y1 y2 y3
  rw [← hw] at cw ⊢
  obtain ⟨H, hH⟩ : ∃ H, H = hWK cI o gA sA fs w h := ⟨_, rfl⟩
  rw [← hH] at cw ⊢
  have kk0 : H0 o = some (.inr (6, fs.set 11 (.int (nI w0.2.2)))) := by rw [hH0]; exact gh3_g0 hap
  obtain ⟨F, hF⟩ : ∃ F, F = fs.set 11 (.int (nI w.2.2)) := ⟨_, rfl⟩
  have k0 : H o = some (.inr (6, F)) := by rw [hH, hF]; exact gh3_g0 hap
  have k1 : H gA = some (.inl (cI, 15, .inl w.1)) := by rw [hH]; exact gh3_g1 hap
  have k2 : H sA = some (.inl (cI, 400, .inl w.2.1)) := by rw [hH]; exact gh3_g2 hap
  have F2 : F[2]? = some (.int (nI n)) := by rw [hF, s 2 _ (by omega)]; exact f2
  have F3 : F[3]? = some (.int (nI K)) := by rw [hF, s 3 _ (by omega)]; exact f3
  have F11 : F[11]? = some (.int (nI w.2.2)) := by rw [hF, s11]
  have F13 : F[13]? = some (.ref sA) := by rw [hF, s 13 _ (by omega)]; exact f13
  have F15 : F[15]? = some (.ref gA) := by rw [hF, s 15 _ (by omega)]; exact f15
  have z5 : ¬ (5 : Int32) = 0 := by decide
  obtain ⟨M, hM⟩ : ∃ M, M = (segF id w.2.2 0).foldl (rmxS w.2.1) 0 := ⟨_, rfl⟩
  have hR : ratF n K w = if (segF id (5 * K) 0).any (solQ w.1 n) = true then 0 else M := by rw [hM]; rfl
  rw [hR]
  obtain ⟨T, hT⟩ : ∃ T, T = (segF id (5 * K) 0).any (solQ w.1 n) := ⟨_, rfl⟩
  rw [← hT]
  have loop2 : ∀ m t : Nat, t + m = 5 * K → (segF id m t).any (solQ w.1 n) = T → gw l g mRF_rated (gr 7) H0 (gZm g H0 0 0 (fun r h' => r = some (.int (if T = true then 0 else M)) ∧ h' = H)) 0 0 49 [some (.ref o), some (.int M), some (.int (nI t))] [] H := by
    intro m
    induction m with
    | zero =>
      intro t htm hb
      have hb2 : false = T := hb
      have hl : nI (5 * K) ≤ nI t := nI_le (by omega) (by omega)
      refine gw_ev (T := gT0) 60 [49] gRt_m (gTO_0 _ _ _ ⟨Nat.le_refl _, Nat.le_refl _⟩) ?_
      simp only [vc_i, vc_l, vc_r, vc_n, Nat.succ_ne_self, gSd_s, gEd_s, gEd_0, gEd_B, gB_t, gB_f, gGo_c, gGo_n, gAll_n, gAll_c, gwK_s, gCT, gCF, gSet, gSet2, gKill, gTw, gTs, gLs, List.map_cons, List.map_nil, fv0, fv1, fv2, fv3, List.getElem?_cons_zero, List.getElem?_cons_succ, List.set_cons_zero, List.set_cons_succ, List.not_mem_nil, List.mem_cons, Option.toList_some, Option.toList_none, List.cons_append, List.nil_append, if_false, if_true, true_and, and_true, forall_const, true_implies, false_implies, or_false, false_or, not_true_eq_false, not_false_eq_true, and_false, false_and, implies_true, Nat.reduceAdd, Nat.reduceEqDiff, Nat.reduceLT, ↓reduceIte, cls_RF_rated, st_aload_n, st_invokevirtual, st_iconst, st_istore_n, st_iload_n, st_getfield, st_if_icmp, st_imul, st_iaload, st_goto, st_iinc, st_irem, st_invokestatic, st_ireturn, (show mRF_rated.2.2.1 = 3 from rfl), tn_RF_196, (show gT0 126 = none from rfl), gF_RF_180, gF_RF_56, gF_RF_88, gF_RF_85, gF_RF_62, tn_RF_150, (show gT0 135 = none from rfl), dRF_rated_0, dRF_rated_1, dRF_rated_4, ic_0, dRF_rated_5, dRF_rated_6, dRF_rated_7, dRF_rated_8, dRF_rated_9, dRF_rated_10, dRF_rated_13, tg_13_34, tz_13_34, dRF_rated_16, dRF_rated_17, dRF_rated_20, ic_4, dRF_rated_21, dRF_rated_22, dRF_rated_23, dRF_rated_24, dRF_rated_25, tg_25_14, tz_25_14, dRF_rated_28, dRF_rated_29, dRF_rated_32, dRF_rated_33, dRF_rated_34, dRF_rated_35, dRF_rated_36, tg_36_4, tz_36_4, dRF_rated_39, dRF_rated_40, dRF_rated_41, ic_1, dRF_rated_44, tg_44_m36, tz_44_m36, dRF_rated_47, dRF_rated_48, dRF_rated_49, dRF_rated_50, ic_5, dRF_rated_51, dRF_rated_52, dRF_rated_55, dRF_rated_56, tg_56_34, tz_56_34, dRF_rated_59, dRF_rated_60, dRF_rated_61, dRF_rated_62, dRF_rated_63, dRF_rated_66, tg_66_18, tz_66_18, dRF_rated_69, dRF_rated_70, dRF_rated_73, dRF_rated_74, dRF_rated_75, dRF_rated_78, dRF_rated_79, tg_79_5, tz_79_5, dRF_rated_82, dRF_rated_83, dRF_rated_84, dRF_rated_87, tg_87_m38, tz_87_m38, dRF_rated_90, dRF_rated_91, k0, F3, l5, hl]
      rw [← hb2, if_neg Bool.false_ne_true]
      exact ⟨rfl, rfl⟩
    | succ m ih =>
      intro t htm hb
      have hgo := any_go hb
      have hl : ¬ nI (5 * K) ≤ nI t := nI_ge (by omega) (by omega)
      have ct : (nI t).toNatClampNeg = t := nI_clamp (by omega)
      have vt : vp_in (nI t) 15 := vp_in_nI (by omega) (by omega)
      have hrm : nI t - nI t / 5 * 5 = nI (t % 5) := pk_rem (a := t) (d := 5) (by omega) (by omega) (by omega)
      by_cases h1 : t % 5 < n
      · have e1 : ¬ nI n ≤ nI (t % 5) := nI_ge h1 (by omega)
        by_cases h2 : sizeF (w.1 t) = 1
        · have e2 : (sizeF (w.1 t) = 1) = True := eq_true h2
          have h9 := ih (t + 1) (by omega) (hgo.2 (decide_eq_false (fun q => q.2 h2)))
          refine gw_ev (T := gT1r) 60 [49] gRt_m ⟨1, kgT1r, gr_ge (by first | decide | omega), ⟨Nat.le_refl _, Nat.le_refl _⟩⟩ ?_
          simp only [vc_i, vc_l, vc_r, vc_n, Nat.succ_ne_self, gSd_s, gEd_s, gEd_0, gEd_B, gB_t, gB_f, gGo_c, gGo_n, gAll_n, gAll_c, gwK_s, gCT, gCF, gSet, gSet2, gKill, gTw, gTs, gLs, List.map_cons, List.map_nil, fv0, fv1, fv2, fv3, List.getElem?_cons_zero, List.getElem?_cons_succ, List.set_cons_zero, List.set_cons_succ, List.not_mem_nil, List.mem_cons, Option.toList_some, Option.toList_none, List.cons_append, List.nil_append, if_false, if_true, true_and, and_true, forall_const, true_implies, false_implies, or_false, false_or, not_true_eq_false, not_false_eq_true, and_false, false_and, implies_true, Nat.reduceAdd, Nat.reduceEqDiff, Nat.reduceLT, ↓reduceIte, cls_RF_rated, st_aload_n, st_invokevirtual, st_iconst, st_istore_n, st_iload_n, st_getfield, st_if_icmp, st_imul, st_iaload, st_goto, st_iinc, st_irem, st_invokestatic, st_ireturn, (show mRF_rated.2.2.1 = 3 from rfl), tn_RF_196, (show gT1r 126 = none from rfl), gF_RF_180, gF_RF_56, gF_RF_88, gF_RF_85, gF_RF_62, tn_RF_150, gT1r_135, gp_RF_size, ms_135, gCs_n, gCs_c, Nat.reduceLeDiff, dRF_rated_0, dRF_rated_1, dRF_rated_4, ic_0, dRF_rated_5, dRF_rated_6, dRF_rated_7, dRF_rated_8, dRF_rated_9, dRF_rated_10, dRF_rated_13, tg_13_34, tz_13_34, dRF_rated_16, dRF_rated_17, dRF_rated_20, ic_4, dRF_rated_21, dRF_rated_22, dRF_rated_23, dRF_rated_24, dRF_rated_25, tg_25_14, tz_25_14, dRF_rated_28, dRF_rated_29, dRF_rated_32, dRF_rated_33, dRF_rated_34, dRF_rated_35, dRF_rated_36, tg_36_4, tz_36_4, dRF_rated_39, dRF_rated_40, dRF_rated_41, ic_1, dRF_rated_44, tg_44_m36, tz_44_m36, dRF_rated_47, dRF_rated_48, dRF_rated_49, dRF_rated_50, ic_5, dRF_rated_51, dRF_rated_52, dRF_rated_55, dRF_rated_56, tg_56_34, tz_56_34, dRF_rated_59, dRF_rated_60, dRF_rated_61, dRF_rated_62, dRF_rated_63, dRF_rated_66, tg_66_18, tz_66_18, dRF_rated_69, dRF_rated_70, dRF_rated_73, dRF_rated_74, dRF_rated_75, dRF_rated_78, dRF_rated_79, tg_79_5, tz_79_5, dRF_rated_82, dRF_rated_83, dRF_rated_84, dRF_rated_87, tg_87_m38, tz_87_m38, dRF_rated_90, dRF_rated_91, k0, F2, F3, F15, k1, l5, hl, hrm, z5, e1, ct, e2, nI_1]
          exact ⟨⟨hcI, vt⟩, h9⟩
        · have h8 := hgo.1 (decide_eq_true ⟨h1, h2⟩)
          rw [h8, if_pos rfl]
          refine gw_ev (T := gT1r) 60 [49] gRt_m ⟨1, kgT1r, gr_ge (by first | decide | omega), ⟨Nat.le_refl _, Nat.le_refl _⟩⟩ ?_
          simp only [vc_i, vc_l, vc_r, vc_n, Nat.succ_ne_self, gSd_s, gEd_s, gEd_0, gEd_B, gB_t, gB_f, gGo_c, gGo_n, gAll_n, gAll_c, gwK_s, gCT, gCF, gSet, gSet2, gKill, gTw, gTs, gLs, List.map_cons, List.map_nil, fv0, fv1, fv2, fv3, List.getElem?_cons_zero, List.getElem?_cons_succ, List.set_cons_zero, List.set_cons_succ, List.not_mem_nil, List.mem_cons, Option.toList_some, Option.toList_none, List.cons_append, List.nil_append, if_false, if_true, true_and, and_true, forall_const, true_implies, false_implies, or_false, false_or, not_true_eq_false, not_false_eq_true, and_false, false_and, implies_true, Nat.reduceAdd, Nat.reduceEqDiff, Nat.reduceLT, ↓reduceIte, cls_RF_rated, st_aload_n, st_invokevirtual, st_iconst, st_istore_n, st_iload_n, st_getfield, st_if_icmp, st_imul, st_iaload, st_goto, st_iinc, st_irem, st_invokestatic, st_ireturn, (show mRF_rated.2.2.1 = 3 from rfl), tn_RF_196, (show gT1r 126 = none from rfl), gF_RF_180, gF_RF_56, gF_RF_88, gF_RF_85, gF_RF_62, tn_RF_150, gT1r_135, gp_RF_size, ms_135, gCs_n, gCs_c, Nat.reduceLeDiff, dRF_rated_0, dRF_rated_1, dRF_rated_4, ic_0, dRF_rated_5, dRF_rated_6, dRF_rated_7, dRF_rated_8, dRF_rated_9, dRF_rated_10, dRF_rated_13, tg_13_34, tz_13_34, dRF_rated_16, dRF_rated_17, dRF_rated_20, ic_4, dRF_rated_21, dRF_rated_22, dRF_rated_23, dRF_rated_24, dRF_rated_25, tg_25_14, tz_25_14, dRF_rated_28, dRF_rated_29, dRF_rated_32, dRF_rated_33, dRF_rated_34, dRF_rated_35, dRF_rated_36, tg_36_4, tz_36_4, dRF_rated_39, dRF_rated_40, dRF_rated_41, ic_1, dRF_rated_44, tg_44_m36, tz_44_m36, dRF_rated_47, dRF_rated_48, dRF_rated_49, dRF_rated_50, ic_5, dRF_rated_51, dRF_rated_52, dRF_rated_55, dRF_rated_56, tg_56_34, tz_56_34, dRF_rated_59, dRF_rated_60, dRF_rated_61, dRF_rated_62, dRF_rated_63, dRF_rated_66, tg_66_18, tz_66_18, dRF_rated_69, dRF_rated_70, dRF_rated_73, dRF_rated_74, dRF_rated_75, dRF_rated_78, dRF_rated_79, tg_79_5, tz_79_5, dRF_rated_82, dRF_rated_83, dRF_rated_84, dRF_rated_87, tg_87_m38, tz_87_m38, dRF_rated_90, dRF_rated_91, k0, F2, F3, F15, k1, l5, hl, hrm, z5, e1, ct, h2]
          exact ⟨⟨hcI, vt⟩, rfl⟩
      · have e1 : nI n ≤ nI (t % 5) := nI_le (by omega) (by omega)
        have h9 := ih (t + 1) (by omega) (hgo.2 (decide_eq_false (fun q => h1 q.1)))
        refine gw_ev (T := gT1r) 60 [49] gRt_m ⟨1, kgT1r, gr_ge (by first | decide | omega), ⟨Nat.le_refl _, Nat.le_refl _⟩⟩ ?_
        simp only [vc_i, vc_l, vc_r, vc_n, Nat.succ_ne_self, gSd_s, gEd_s, gEd_0, gEd_B, gB_t, gB_f, gGo_c, gGo_n, gAll_n, gAll_c, gwK_s, gCT, gCF, gSet, gSet2, gKill, gTw, gTs, gLs, List.map_cons, List.map_nil, fv0, fv1, fv2, fv3, List.getElem?_cons_zero, List.getElem?_cons_succ, List.set_cons_zero, List.set_cons_succ, List.not_mem_nil, List.mem_cons, Option.toList_some, Option.toList_none, List.cons_append, List.nil_append, if_false, if_true, true_and, and_true, forall_const, true_implies, false_implies, or_false, false_or, not_true_eq_false, not_false_eq_true, and_false, false_and, implies_true, Nat.reduceAdd, Nat.reduceEqDiff, Nat.reduceLT, ↓reduceIte, cls_RF_rated, st_aload_n, st_invokevirtual, st_iconst, st_istore_n, st_iload_n, st_getfield, st_if_icmp, st_imul, st_iaload, st_goto, st_iinc, st_irem, st_invokestatic, st_ireturn, (show mRF_rated.2.2.1 = 3 from rfl), tn_RF_196, (show gT1r 126 = none from rfl), gF_RF_180, gF_RF_56, gF_RF_88, gF_RF_85, gF_RF_62, tn_RF_150, gT1r_135, gp_RF_size, ms_135, gCs_n, gCs_c, Nat.reduceLeDiff, dRF_rated_0, dRF_rated_1, dRF_rated_4, ic_0, dRF_rated_5, dRF_rated_6, dRF_rated_7, dRF_rated_8, dRF_rated_9, dRF_rated_10, dRF_rated_13, tg_13_34, tz_13_34, dRF_rated_16, dRF_rated_17, dRF_rated_20, ic_4, dRF_rated_21, dRF_rated_22, dRF_rated_23, dRF_rated_24, dRF_rated_25, tg_25_14, tz_25_14, dRF_rated_28, dRF_rated_29, dRF_rated_32, dRF_rated_33, dRF_rated_34, dRF_rated_35, dRF_rated_36, tg_36_4, tz_36_4, dRF_rated_39, dRF_rated_40, dRF_rated_41, ic_1, dRF_rated_44, tg_44_m36, tz_44_m36, dRF_rated_47, dRF_rated_48, dRF_rated_49, dRF_rated_50, ic_5, dRF_rated_51, dRF_rated_52, dRF_rated_55, dRF_rated_56, tg_56_34, tz_56_34, dRF_rated_59, dRF_rated_60, dRF_rated_61, dRF_rated_62, dRF_rated_63, dRF_rated_66, tg_66_18, tz_66_18, dRF_rated_69, dRF_rated_70, dRF_rated_73, dRF_rated_74, dRF_rated_75, dRF_rated_78, dRF_rated_79, tg_79_5, tz_79_5, dRF_rated_82, dRF_rated_83, dRF_rated_84, dRF_rated_87, tg_87_m38, tz_87_m38, dRF_rated_90, dRF_rated_91, k0, F2, F3, F15, k1, l5, hl, hrm, z5, e1, nI_1]
        exact h9
  have loop1 : ∀ (m k : Nat) (a : Int32), k + m = w.2.2 → (segF id m k).foldl (rmxS w.2.1) a = M → gw l g mRF_rated (gr 7) H0 (gZm g H0 0 0 (fun r h' => r = some (.int (if T = true then 0 else M)) ∧ h' = H)) 0 0 8 [some (.ref o), some (.int a), some (.int (nI k))] [] H := by
    intro m
    induction m with
    | zero =>
      intro k a hkm hb
      have hb2 : a = M := hb
      have hl : nI w.2.2 ≤ nI k := nI_le (by omega) (by omega)
      have h9 := loop2 (5 * K) 0 (by omega) hT.symm
      rw [nI_0] at h9
      rw [hb2]
      refine gw_ev (T := gT0) 60 [49] gRt_m (gTO_0 _ _ _ ⟨Nat.le_refl _, Nat.le_refl _⟩) ?_
      simp only [vc_i, vc_l, vc_r, vc_n, Nat.succ_ne_self, gSd_s, gEd_s, gEd_0, gEd_B, gB_t, gB_f, gGo_c, gGo_n, gAll_n, gAll_c, gwK_s, gCT, gCF, gSet, gSet2, gKill, gTw, gTs, gLs, List.map_cons, List.map_nil, fv0, fv1, fv2, fv3, List.getElem?_cons_zero, List.getElem?_cons_succ, List.set_cons_zero, List.set_cons_succ, List.not_mem_nil, List.mem_cons, Option.toList_some, Option.toList_none, List.cons_append, List.nil_append, if_false, if_true, true_and, and_true, forall_const, true_implies, false_implies, or_false, false_or, not_true_eq_false, not_false_eq_true, and_false, false_and, implies_true, Nat.reduceAdd, Nat.reduceEqDiff, Nat.reduceLT, ↓reduceIte, cls_RF_rated, st_aload_n, st_invokevirtual, st_iconst, st_istore_n, st_iload_n, st_getfield, st_if_icmp, st_imul, st_iaload, st_goto, st_iinc, st_irem, st_invokestatic, st_ireturn, (show mRF_rated.2.2.1 = 3 from rfl), tn_RF_196, (show gT0 126 = none from rfl), gF_RF_180, gF_RF_56, gF_RF_88, gF_RF_85, gF_RF_62, tn_RF_150, (show gT0 135 = none from rfl), dRF_rated_0, dRF_rated_1, dRF_rated_4, ic_0, dRF_rated_5, dRF_rated_6, dRF_rated_7, dRF_rated_8, dRF_rated_9, dRF_rated_10, dRF_rated_13, tg_13_34, tz_13_34, dRF_rated_16, dRF_rated_17, dRF_rated_20, ic_4, dRF_rated_21, dRF_rated_22, dRF_rated_23, dRF_rated_24, dRF_rated_25, tg_25_14, tz_25_14, dRF_rated_28, dRF_rated_29, dRF_rated_32, dRF_rated_33, dRF_rated_34, dRF_rated_35, dRF_rated_36, tg_36_4, tz_36_4, dRF_rated_39, dRF_rated_40, dRF_rated_41, ic_1, dRF_rated_44, tg_44_m36, tz_44_m36, dRF_rated_47, dRF_rated_48, dRF_rated_49, dRF_rated_50, ic_5, dRF_rated_51, dRF_rated_52, dRF_rated_55, dRF_rated_56, tg_56_34, tz_56_34, dRF_rated_59, dRF_rated_60, dRF_rated_61, dRF_rated_62, dRF_rated_63, dRF_rated_66, tg_66_18, tz_66_18, dRF_rated_69, dRF_rated_70, dRF_rated_73, dRF_rated_74, dRF_rated_75, dRF_rated_78, dRF_rated_79, tg_79_5, tz_79_5, dRF_rated_82, dRF_rated_83, dRF_rated_84, dRF_rated_87, tg_87_m38, tz_87_m38, dRF_rated_90, dRF_rated_91, k0, F11, hl]
      exact h9
    | succ m ih =>
      intro k a hkm hb
      have hl : ¬ nI w.2.2 ≤ nI k := nI_ge (by omega) (by omega)
      have c4 : (nI (4 * k)).toNatClampNeg = 4 * k := nI_clamp (by omega)
      have v4 : vp_in (nI (4 * k)) 400 := vp_in_nI (by omega) (by omega)
      have hb2 : (segF id m (k + 1)).foldl (rmxS w.2.1) (rmxS w.2.1 a k) = M := hb
      have h9 := ih (k + 1) _ (by omega) hb2
      by_cases h1 : w.2.1 (4 * k) ≤ a
      · have e1 : rmxS w.2.1 a k = a := if_pos h1
        rw [e1] at h9
        refine gw_ev (T := gT0) 60 [8] gRt_m (gTO_0 _ _ _ ⟨Nat.le_refl _, Nat.le_refl _⟩) ?_
        simp only [vc_i, vc_l, vc_r, vc_n, Nat.succ_ne_self, gSd_s, gEd_s, gEd_0, gEd_B, gB_t, gB_f, gGo_c, gGo_n, gAll_n, gAll_c, gwK_s, gCT, gCF, gSet, gSet2, gKill, gTw, gTs, gLs, List.map_cons, List.map_nil, fv0, fv1, fv2, fv3, List.getElem?_cons_zero, List.getElem?_cons_succ, List.set_cons_zero, List.set_cons_succ, List.not_mem_nil, List.mem_cons, Option.toList_some, Option.toList_none, List.cons_append, List.nil_append, if_false, if_true, true_and, and_true, forall_const, true_implies, false_implies, or_false, false_or, not_true_eq_false, not_false_eq_true, and_false, false_and, implies_true, Nat.reduceAdd, Nat.reduceEqDiff, Nat.reduceLT, ↓reduceIte, cls_RF_rated, st_aload_n, st_invokevirtual, st_iconst, st_istore_n, st_iload_n, st_getfield, st_if_icmp, st_imul, st_iaload, st_goto, st_iinc, st_irem, st_invokestatic, st_ireturn, (show mRF_rated.2.2.1 = 3 from rfl), tn_RF_196, (show gT0 126 = none from rfl), gF_RF_180, gF_RF_56, gF_RF_88, gF_RF_85, gF_RF_62, tn_RF_150, (show gT0 135 = none from rfl), dRF_rated_0, dRF_rated_1, dRF_rated_4, ic_0, dRF_rated_5, dRF_rated_6, dRF_rated_7, dRF_rated_8, dRF_rated_9, dRF_rated_10, dRF_rated_13, tg_13_34, tz_13_34, dRF_rated_16, dRF_rated_17, dRF_rated_20, ic_4, dRF_rated_21, dRF_rated_22, dRF_rated_23, dRF_rated_24, dRF_rated_25, tg_25_14, tz_25_14, dRF_rated_28, dRF_rated_29, dRF_rated_32, dRF_rated_33, dRF_rated_34, dRF_rated_35, dRF_rated_36, tg_36_4, tz_36_4, dRF_rated_39, dRF_rated_40, dRF_rated_41, ic_1, dRF_rated_44, tg_44_m36, tz_44_m36, dRF_rated_47, dRF_rated_48, dRF_rated_49, dRF_rated_50, ic_5, dRF_rated_51, dRF_rated_52, dRF_rated_55, dRF_rated_56, tg_56_34, tz_56_34, dRF_rated_59, dRF_rated_60, dRF_rated_61, dRF_rated_62, dRF_rated_63, dRF_rated_66, tg_66_18, tz_66_18, dRF_rated_69, dRF_rated_70, dRF_rated_73, dRF_rated_74, dRF_rated_75, dRF_rated_78, dRF_rated_79, tg_79_5, tz_79_5, dRF_rated_82, dRF_rated_83, dRF_rated_84, dRF_rated_87, tg_87_m38, tz_87_m38, dRF_rated_90, dRF_rated_91, k0, F11, F13, k2, hl, l4, c4, h1, nI_1]
        exact ⟨⟨hcI, v4⟩, h9⟩
      · have e1 : rmxS w.2.1 a k = w.2.1 (4 * k) := if_neg h1
        rw [e1] at h9
        refine gw_ev (T := gT0) 60 [8] gRt_m (gTO_0 _ _ _ ⟨Nat.le_refl _, Nat.le_refl _⟩) ?_
        simp only [vc_i, vc_l, vc_r, vc_n, Nat.succ_ne_self, gSd_s, gEd_s, gEd_0, gEd_B, gB_t, gB_f, gGo_c, gGo_n, gAll_n, gAll_c, gwK_s, gCT, gCF, gSet, gSet2, gKill, gTw, gTs, gLs, List.map_cons, List.map_nil, fv0, fv1, fv2, fv3, List.getElem?_cons_zero, List.getElem?_cons_succ, List.set_cons_zero, List.set_cons_succ, List.not_mem_nil, List.mem_cons, Option.toList_some, Option.toList_none, List.cons_append, List.nil_append, if_false, if_true, true_and, and_true, forall_const, true_implies, false_implies, or_false, false_or, not_true_eq_false, not_false_eq_true, and_false, false_and, implies_true, Nat.reduceAdd, Nat.reduceEqDiff, Nat.reduceLT, ↓reduceIte, cls_RF_rated, st_aload_n, st_invokevirtual, st_iconst, st_istore_n, st_iload_n, st_getfield, st_if_icmp, st_imul, st_iaload, st_goto, st_iinc, st_irem, st_invokestatic, st_ireturn, (show mRF_rated.2.2.1 = 3 from rfl), tn_RF_196, (show gT0 126 = none from rfl), gF_RF_180, gF_RF_56, gF_RF_88, gF_RF_85, gF_RF_62, tn_RF_150, (show gT0 135 = none from rfl), dRF_rated_0, dRF_rated_1, dRF_rated_4, ic_0, dRF_rated_5, dRF_rated_6, dRF_rated_7, dRF_rated_8, dRF_rated_9, dRF_rated_10, dRF_rated_13, tg_13_34, tz_13_34, dRF_rated_16, dRF_rated_17, dRF_rated_20, ic_4, dRF_rated_21, dRF_rated_22, dRF_rated_23, dRF_rated_24, dRF_rated_25, tg_25_14, tz_25_14, dRF_rated_28, dRF_rated_29, dRF_rated_32, dRF_rated_33, dRF_rated_34, dRF_rated_35, dRF_rated_36, tg_36_4, tz_36_4, dRF_rated_39, dRF_rated_40, dRF_rated_41, ic_1, dRF_rated_44, tg_44_m36, tz_44_m36, dRF_rated_47, dRF_rated_48, dRF_rated_49, dRF_rated_50, ic_5, dRF_rated_51, dRF_rated_52, dRF_rated_55, dRF_rated_56, tg_56_34, tz_56_34, dRF_rated_59, dRF_rated_60, dRF_rated_61, dRF_rated_62, dRF_rated_63, dRF_rated_66, tg_66_18, tz_66_18, dRF_rated_69, dRF_rated_70, dRF_rated_73, dRF_rated_74, dRF_rated_75, dRF_rated_78, dRF_rated_79, tg_79_5, tz_79_5, dRF_rated_82, dRF_rated_83, dRF_rated_84, dRF_rated_87, tg_87_m38, tz_87_m38, dRF_rated_90, dRF_rated_91, k0, F11, F13, k2, hl, l4, c4, h1, nI_1]
        exact ⟨⟨hcI, v4⟩, ⟨hcI, v4⟩, h9⟩
  have h9 := loop1 w.2.2 0 0 (by omega) hM.symm
  clear loop1 loop2
  rw [nI_0] at h9
  refine gC_of (lv0 := [some (.ref o), none, none]) (by decide +kernel) (Nat.le_of_ble_eq_true rfl) (fun q hq => hq) ⟨rfl, rfl⟩ ?_
  refine gw_ev (T := gT0) 60 [] gRt_m (gTO_0 _ _ _ ⟨Nat.le_refl _, Nat.le_refl _⟩) ?_
  simp only [vc_i, vc_l, vc_r, vc_n, Nat.succ_ne_self, gSd_s, gEd_s, gEd_0, gEd_B, gB_t, gB_f, gGo_c, gGo_n, gAll_n, gAll_c, gwK_s, gCT, gCF, gSet, gSet2, gKill, gTw, gTs, gLs, List.map_cons, List.map_nil, fv0, fv1, fv2, fv3, List.getElem?_cons_zero, List.getElem?_cons_succ, List.set_cons_zero, List.set_cons_succ, List.not_mem_nil, List.mem_cons, Option.toList_some, Option.toList_none, List.cons_append, List.nil_append, if_false, if_true, true_and, and_true, forall_const, true_implies, false_implies, or_false, false_or, not_true_eq_false, not_false_eq_true, and_false, false_and, implies_true, Nat.reduceAdd, Nat.reduceEqDiff, Nat.reduceLT, ↓reduceIte, cls_RF_rated, st_aload_n, st_invokevirtual, st_iconst, st_istore_n, st_iload_n, st_getfield, st_if_icmp, st_imul, st_iaload, st_goto, st_iinc, st_irem, st_invokestatic, st_ireturn, (show mRF_rated.2.2.1 = 3 from rfl), tn_RF_196, (show gT0 126 = none from rfl), gF_RF_180, gF_RF_56, gF_RF_88, gF_RF_85, gF_RF_62, tn_RF_150, (show gT0 135 = none from rfl), dRF_rated_0, dRF_rated_1, dRF_rated_4, ic_0, dRF_rated_5, dRF_rated_6, dRF_rated_7, dRF_rated_8, dRF_rated_9, dRF_rated_10, dRF_rated_13, tg_13_34, tz_13_34, dRF_rated_16, dRF_rated_17, dRF_rated_20, ic_4, dRF_rated_21, dRF_rated_22, dRF_rated_23, dRF_rated_24, dRF_rated_25, tg_25_14, tz_25_14, dRF_rated_28, dRF_rated_29, dRF_rated_32, dRF_rated_33, dRF_rated_34, dRF_rated_35, dRF_rated_36, tg_36_4, tz_36_4, dRF_rated_39, dRF_rated_40, dRF_rated_41, ic_1, dRF_rated_44, tg_44_m36, tz_44_m36, dRF_rated_47, dRF_rated_48, dRF_rated_49, dRF_rated_50, ic_5, dRF_rated_51, dRF_rated_52, dRF_rated_55, dRF_rated_56, tg_56_34, tz_56_34, dRF_rated_59, dRF_rated_60, dRF_rated_61, dRF_rated_62, dRF_rated_63, dRF_rated_66, tg_66_18, tz_66_18, dRF_rated_69, dRF_rated_70, dRF_rated_73, dRF_rated_74, dRF_rated_75, dRF_rated_78, dRF_rated_79, tg_79_5, tz_79_5, dRF_rated_82, dRF_rated_83, dRF_rated_84, dRF_rated_87, tg_87_m38, tz_87_m38, dRF_rated_90, dRF_rated_91]
  refine gw_cV (r := []) dRF_rated_1 (cw) rfl (kk0) rfl wc_RF_work wl_RF_196 wi_RF_work ws_RF_work wn_RF (by show _ ∧ _ ∧ _ = some 0; decide +kernel) (by decide) (gr_ge (by first | decide | omega)) (Nat.le_of_ble_eq_true rfl) ⟨Nat.le_refl _, Nat.le_refl _⟩ ?_
  refine gw_ev (T := gT0) 60 [8] gRt_m (gTO_0 _ _ _ ⟨Nat.le_refl _, Nat.le_refl _⟩) ?_
  simp only [vc_i, vc_l, vc_r, vc_n, Nat.succ_ne_self, gSd_s, gEd_s, gEd_0, gEd_B, gB_t, gB_f, gGo_c, gGo_n, gAll_n, gAll_c, gwK_s, gCT, gCF, gSet, gSet2, gKill, gTw, gTs, gLs, List.map_cons, List.map_nil, fv0, fv1, fv2, fv3, List.getElem?_cons_zero, List.getElem?_cons_succ, List.set_cons_zero, List.set_cons_succ, List.not_mem_nil, List.mem_cons, Option.toList_some, Option.toList_none, List.cons_append, List.nil_append, if_false, if_true, true_and, and_true, forall_const, true_implies, false_implies, or_false, false_or, not_true_eq_false, not_false_eq_true, and_false, false_and, implies_true, Nat.reduceAdd, Nat.reduceEqDiff, Nat.reduceLT, ↓reduceIte, cls_RF_rated, st_aload_n, st_invokevirtual, st_iconst, st_istore_n, st_iload_n, st_getfield, st_if_icmp, st_imul, st_iaload, st_goto, st_iinc, st_irem, st_invokestatic, st_ireturn, (show mRF_rated.2.2.1 = 3 from rfl), tn_RF_196, (show gT0 126 = none from rfl), gF_RF_180, gF_RF_56, gF_RF_88, gF_RF_85, gF_RF_62, tn_RF_150, (show gT0 135 = none from rfl), dRF_rated_0, dRF_rated_1, dRF_rated_4, ic_0, dRF_rated_5, dRF_rated_6, dRF_rated_7, dRF_rated_8, dRF_rated_9, dRF_rated_10, dRF_rated_13, tg_13_34, tz_13_34, dRF_rated_16, dRF_rated_17, dRF_rated_20, ic_4, dRF_rated_21, dRF_rated_22, dRF_rated_23, dRF_rated_24, dRF_rated_25, tg_25_14, tz_25_14, dRF_rated_28, dRF_rated_29, dRF_rated_32, dRF_rated_33, dRF_rated_34, dRF_rated_35, dRF_rated_36, tg_36_4, tz_36_4, dRF_rated_39, dRF_rated_40, dRF_rated_41, ic_1, dRF_rated_44, tg_44_m36, tz_44_m36, dRF_rated_47, dRF_rated_48, dRF_rated_49, dRF_rated_50, ic_5, dRF_rated_51, dRF_rated_52, dRF_rated_55, dRF_rated_56, tg_56_34, tz_56_34, dRF_rated_59, dRF_rated_60, dRF_rated_61, dRF_rated_62, dRF_rated_63, dRF_rated_66, tg_66_18, tz_66_18, dRF_rated_69, dRF_rated_70, dRF_rated_73, dRF_rated_74, dRF_rated_75, dRF_rated_78, dRF_rated_79, tg_79_5, tz_79_5, dRF_rated_82, dRF_rated_83, dRF_rated_84, dRF_rated_87, tg_87_m38, tz_87_m38, dRF_rated_90, dRF_rated_91]
  exact h9
set_option maxRecDepth 100000 in
set_option maxHeartbeats 8000000 in
theorem c_RF_rating (l : Launch) (g : gG) (cI : ClassId) (hcI : (cI, FieldType.int) ∈ g.2.1) (o cA gA sA n K c : Nat) (hn : 1 ≤ n ∧ n ≤ 5) (hK : K ≤ 3) (hc9 : c ≤ 30) (fs : List Value) (hlen : fs.length = 33) (cl : Nat → Int32) (hok : ∀ rule k, k < c → isOfB (nI rule) (cl (6 * k)) (cl (6 * k + 5)) = true → rule = 3 ∨ rule = 5 → okR cl k) (w0 : WK) (h H0 : gH) (hH0 : H0 = hWK cI o gA sA fs w0 h) (f2 : fs[2]? = some (.int (nI n))) (f3 : fs[3]? = some (.int (nI K))) (f6 : fs[6]? = some (.int (nI c))) (f8 : fs[8]? = some (.ref cA)) (f13 : fs[13]? = some (.ref sA)) (f15 : fs[15]? = some (.ref gA)) (hc : h cA = some (.inl (cI, 186, .inl cl))) (hap : ap3 o gA sA) (y1 : cA ≠ o) (y2 : cA ≠ gA) (y3 : cA ≠ sA) : gC l g mRF_rating (gr 8) [.ref o] H0 (fun r h' => r = some (.int (ratF n K (wkF n K c cl 76 (wk0 n w0)))) ∧ h' = hWK cI o gA sA (fs.set 1 (.int 0)) (wkF n K c cl 76 (wk0 n w0)) h) := by
  have s : ∀ (i : Nat) (v : Value), 1 ≠ i → (fs.set 1 v)[i]? = fs[i]? := fun i v q => List.getElem?_set_ne q
  have kk0 : H0 o = some (.inr (6, fs.set 11 (.int (nI w0.2.2)))) := by rw [hH0]; exact gh3_g0 hap
  have Fl : (fs.set 11 (.int (nI w0.2.2))).length = 33 := by rw [List.length_set]; exact hlen
  obtain ⟨H1, hH1⟩ : ∃ H1, H1 = gup H0 o (.inr (6, (fs.set 11 (.int (nI w0.2.2))).set 1 (.int 0))) := ⟨_, rfl⟩
  have hH2 : H1 = hWK cI o gA sA (fs.set 1 (.int 0)) w0 h := by
    rw [hH1, hH0]
    unfold hWK
    rw [gh3_p0 hap, List.set_comm _ _ (by omega)]
  have k0 : H1 o = some (.inr (6, (fs.set 11 (.int (nI w0.2.2))).set 1 (.int 0))) := by rw [hH1, gup_s]
  have cr := c_RF_rated l g cI hcI o cA gA sA n K c hn hK hc9 (fs.set 1 (.int 0)) (by rw [List.length_set]; exact hlen) cl hok w0 h H1 hH2 (by rw [s 2 _ (by omega)]; exact f2) (by rw [s 3 _ (by omega)]; exact f3) (by rw [s 6 _ (by omega)]; exact f6) (by rw [s 8 _ (by omega)]; exact f8) (by rw [s 13 _ (by omega)]; exact f13) (by rw [s 15 _ (by omega)]; exact f15) hc hap y1 y2 y3
  refine gC_of (lv0 := [some (.ref o)]) (by decide +kernel) (Nat.le_of_ble_eq_true rfl) (fun q hq => hq) ⟨rfl, rfl⟩ ?_
  refine gw_ev (T := gT0) 60 [] gRt_m (gTO_0 _ _ _ ⟨Nat.le_refl _, Nat.le_refl _⟩) ?_
  simp only [vc_i, vc_l, vc_r, vc_n, Nat.succ_ne_self, gSd_s, gEd_s, gEd_0, gEd_B, gB_t, gB_f, gGo_c, gGo_n, gAll_n, gAll_c, gwK_s, gCT, gCF, gSet, gSet2, gKill, gTw, gTs, gLs, List.map_cons, List.map_nil, fv0, fv1, fv2, fv3, List.getElem?_cons_zero, List.getElem?_cons_succ, List.set_cons_zero, List.set_cons_succ, List.not_mem_nil, List.mem_cons, Option.toList_some, Option.toList_none, List.cons_append, List.nil_append, if_false, if_true, true_and, and_true, forall_const, true_implies, false_implies, or_false, false_or, not_true_eq_false, not_false_eq_true, and_false, false_and, implies_true, Nat.reduceAdd, Nat.reduceEqDiff, Nat.reduceLT, ↓reduceIte, cls_RF_rating, st_aload_n, st_iconst, st_putfield, st_invokevirtual, st_ireturn, (show mRF_rating.2.2.1 = 1 from rfl), fp_RF_rating_94, tn_RF_202, (show gT0 143 = none from rfl), dRF_rating_0, dRF_rating_1, ic_0, dRF_rating_2, dRF_rating_5, dRF_rating_6, dRF_rating_9, kk0, Fl]
  refine ⟨fit_i _, ?_⟩
  rw [← hH1]
  refine gw_cV (r := []) dRF_rating_6 (cr) rfl (k0) rfl wc_RF_rated wl_RF_202 wi_RF_rated ws_RF_rated wn_RF (by show _ ∧ _ ∧ _ = some 0; decide +kernel) (by decide) (gr_ge (by first | decide | omega)) (Nat.le_of_ble_eq_true rfl) ⟨Nat.le_refl _, Nat.le_refl _⟩ ?_
  refine gw_ev (T := gT0) 60 [] gRt_m (gTO_0 _ _ _ ⟨Nat.le_refl _, Nat.le_refl _⟩) ?_
  simp only [vc_i, vc_l, vc_r, vc_n, Nat.succ_ne_self, gSd_s, gEd_s, gEd_0, gEd_B, gB_t, gB_f, gGo_c, gGo_n, gAll_n, gAll_c, gwK_s, gCT, gCF, gSet, gSet2, gKill, gTw, gTs, gLs, List.map_cons, List.map_nil, fv0, fv1, fv2, fv3, List.getElem?_cons_zero, List.getElem?_cons_succ, List.set_cons_zero, List.set_cons_succ, List.not_mem_nil, List.mem_cons, Option.toList_some, Option.toList_none, List.cons_append, List.nil_append, if_false, if_true, true_and, and_true, forall_const, true_implies, false_implies, or_false, false_or, not_true_eq_false, not_false_eq_true, and_false, false_and, implies_true, Nat.reduceAdd, Nat.reduceEqDiff, Nat.reduceLT, ↓reduceIte, cls_RF_rating, st_aload_n, st_iconst, st_putfield, st_invokevirtual, st_ireturn, (show mRF_rating.2.2.1 = 1 from rfl), fp_RF_rating_94, tn_RF_202, (show gT0 143 = none from rfl), dRF_rating_0, dRF_rating_1, ic_0, dRF_rating_2, dRF_rating_5, dRF_rating_6, dRF_rating_9]
  exact rfl
set_option maxRecDepth 100000 in
set_option maxHeartbeats 8000000 in
theorem c_RF_prove (l : Launch) (g : gG) (cI : ClassId) (hcI : (cI, FieldType.int) ∈ g.2.1) (o cA gA sA gB sB n K c : Nat) (hn : 1 ≤ n ∧ n ≤ 5) (hK : K ≤ 3) (hc9 : c ≤ 30) (fs : List Value) (hlen : fs.length = 33) (cl gd2 st2 : Nat → Int32) (hok : ∀ rule k, k < c → isOfB (nI rule) (cl (6 * k)) (cl (6 * k + 5)) = true → rule = 3 ∨ rule = 5 → okR cl k) (w0 : WK) (h H0 : gH) (hH0 : H0 = hWK cI o gA sA fs w0 h) (f2 : fs[2]? = some (.int (nI n))) (f3 : fs[3]? = some (.int (nI K))) (f6 : fs[6]? = some (.int (nI c))) (f8 : fs[8]? = some (.ref cA)) (f13 : fs[13]? = some (.ref sA)) (f14 : fs[14]? = some (.ref sB)) (f15 : fs[15]? = some (.ref gA)) (f16 : fs[16]? = some (.ref gB)) (hc : h cA = some (.inl (cI, 186, .inl cl))) (hap : ap5 sB gB o gA sA) (y1 : cA ≠ o) (y2 : cA ≠ gA) (y3 : cA ≠ sA) (hsB : h sB = some (.inl (cI, 400, .inl st2))) (hgB : h gB = some (.inl (cI, 15, .inl gd2))) : gC l g mRF_prove (gr 8) [.ref o] H0 (fun r h' => r = some (.int (nI (wkF n K c cl 76 (wk0 n w0)).2.2)) ∧ h' = hWK cI o gA sA ((fs.set 1 (.int 0)).set 12 (.int (nI (wkF n K c cl 76 (wk0 n w0)).2.2))) (wkF n K c cl 76 (wk0 n w0)) (gh2 sB gB (.inl (cI, 400, .inl (cpF (wkF n K c cl 76 (wk0 n w0)).2.1 st2 (4 * (wkF n K c cl 76 (wk0 n w0)).2.2)))) (.inl (cI, 15, .inl (cpF (wkF n K c cl 76 (wk0 n w0)).1 gd2 15))) h)) := by
  obtain ⟨d01, d02, d03, d04, d12, d13, d14, d23, d24, d34⟩ := hap
  have hap3 : ap3 o gA sA := ⟨d23, d24, d34⟩
  have s : ∀ (i : Nat) (v : Value), 1 ≠ i → (fs.set 1 v)[i]? = fs[i]? := fun i v q => List.getElem?_set_ne q
  have kk0 : H0 o = some (.inr (6, fs.set 11 (.int (nI w0.2.2)))) := by rw [hH0]; exact gh3_g0 hap3
  have Fl : (fs.set 11 (.int (nI w0.2.2))).length = 33 := by rw [List.length_set]; exact hlen
  obtain ⟨H1, hH1⟩ : ∃ H1, H1 = gup H0 o (.inr (6, (fs.set 11 (.int (nI w0.2.2))).set 1 (.int 0))) := ⟨_, rfl⟩
  have hH2 : H1 = hWK cI o gA sA (fs.set 1 (.int 0)) w0 h := by
    rw [hH1, hH0]
    unfold hWK
    rw [gh3_p0 hap3, List.set_comm _ _ (by omega)]
  have k0 : H1 o = some (.inr (6, (fs.set 11 (.int (nI w0.2.2))).set 1 (.int 0))) := by rw [hH1, gup_s]
  have cw := c_RF_work l g cI hcI o cA gA sA n K c hn hK hc9 (fs.set 1 (.int 0)) (by rw [List.length_set]; exact hlen) cl hok w0 h H1 hH2 (by rw [s 2 _ (by omega)]; exact f2) (by rw [s 3 _ (by omega)]; exact f3) (by rw [s 6 _ (by omega)]; exact f6) (by rw [s 8 _ (by omega)]; exact f8) (by rw [s 13 _ (by omega)]; exact f13) (by rw [s 15 _ (by omega)]; exact f15) hc hap3 y1 y2 y3
  obtain ⟨w, hw⟩ : ∃ w, w = wkF n K c cl 76 (wk0 n w0) := ⟨_, rfl⟩
  have hws : w.2.2 ≤ 75 := by
    obtain ⟨q1, q2⟩ := wkF_ok (n := n) (K := K) (c := c) (cl := cl) hn.2 hK 76 (wk0 n w0) (wk0_ok hn.2 w0)
    have q3 := msG_le (wk0 n w0).1
    have q4 : (wk0 n w0).2.2 = 0 := rfl
    rw [hw]
    omega
  rw [← hw] at cw ⊢
  obtain ⟨G, hG⟩ : ∃ G, G = ((fs.set 1 (.int 0)).set 12 (.int (nI w.2.2))).set 11 (.int (nI w.2.2)) := ⟨_, rfl⟩
  have G11 : G[11]? = some (.int (nI w.2.2)) := by rw [hG]; exact List.getElem?_set_self (by rw [List.length_set, List.length_set]; omega)
  have gs : ∀ i, 11 ≠ i → 12 ≠ i → 1 ≠ i → G[i]? = fs[i]? := fun i q1 q2 q3 => by rw [hG, List.getElem?_set_ne q1, List.getElem?_set_ne q2, List.getElem?_set_ne q3]
  have G13 : G[13]? = some (.ref sA) := by rw [gs 13 (by omega) (by omega) (by omega)]; exact f13
  have G14 : G[14]? = some (.ref sB) := by rw [gs 14 (by omega) (by omega) (by omega)]; exact f14
  have G15 : G[15]? = some (.ref gA) := by rw [gs 15 (by omega) (by omega) (by omega)]; exact f15
  have G16 : G[16]? = some (.ref gB) := by rw [gs 16 (by omega) (by omega) (by omega)]; exact f16
  obtain ⟨HH, hHH⟩ : ∃ HH : (Nat → Int32) → (Nat → Int32) → gH, HH = fun p q => hWK cI o gA sA ((fs.set 1 (.int 0)).set 12 (.int (nI w.2.2))) w (gh2 sB gB (.inl (cI, 400, .inl p)) (.inl (cI, 15, .inl q)) h) := ⟨_, rfl⟩
  have r0 : ∀ p q, HH p q o = some (.inr (6, G)) := fun p q => by rw [hHH, hG]; exact gh3_g0 hap3
  have r1 : ∀ p q, HH p q gA = some (.inl (cI, 15, .inl w.1)) := fun p q => by rw [hHH]; exact gh3_g1 hap3
  have r2 : ∀ p q, HH p q sA = some (.inl (cI, 400, .inl w.2.1)) := fun p q => by rw [hHH]; exact gh3_g2 hap3
  have r3 : ∀ p q, HH p q sB = some (.inl (cI, 400, .inl p)) := fun p q => by rw [hHH]; show gh3 _ _ _ _ _ _ _ _ = _; rw [gh3_x d02 d03 d04]; exact gh2_g0 d01
  have r4 : ∀ p q, HH p q gB = some (.inl (cI, 15, .inl q)) := fun p q => by rw [hHH]; show gh3 _ _ _ _ _ _ _ _ = _; rw [gh3_x d12 d13 d14]; exact gh2_g1 d01
  have pu : ∀ (a b : Nat) (e f : va_E) (hh : gH), a ≠ b → gup (gup hh b f) a e = gup (gup hh a e) b f := fun a b e f hh q => gup_sw hh f e (Ne.symm q)
  have p3 : ∀ p q p2, gup (HH p q) sB (.inl (cI, 400, .inl p2)) = HH p2 q := fun p q p2 => by
    rw [hHH]
    show gup (gup (gup (gup (gh2 _ _ _ _ h) _ _) _ _) _ _) _ _ = gup (gup (gup (gh2 _ _ _ _ h) _ _) _ _) _ _
    rw [pu sB sA _ _ _ d04, pu sB gA _ _ _ d03, pu sB o _ _ _ d02, gh2_p0 d01]
  have p4 : ∀ p q q2, gup (HH p q) gB (.inl (cI, 15, .inl q2)) = HH p q2 := fun p q q2 => by
    rw [hHH]
    show gup (gup (gup (gup (gh2 _ _ _ _ h) _ _) _ _) _ _) _ _ = gup (gup (gup (gh2 _ _ _ _ h) _ _) _ _) _ _
    rw [pu gB sA _ _ _ d14, pu gB gA _ _ _ d13, pu gB o _ _ _ d12, gh2_p1 d01]
  have fin : ∀ p q, HH p q = hWK cI o gA sA ((fs.set 1 (.int 0)).set 12 (.int (nI w.2.2))) w (gh2 sB gB (.inl (cI, 400, .inl p)) (.inl (cI, 15, .inl q)) h) := fun p q => by rw [hHH]
  rw [← fin]
  have loop2 : ∀ m t : Nat, t + m = 15 → gw l g mRF_prove (gr 8) H0 (gZm g H0 0 0 (fun r h' => r = some (.int (nI w.2.2)) ∧ h' = HH (cpF w.2.1 st2 (4 * w.2.2)) (cpF w.1 gd2 15))) 0 0 49 [some (.ref o), some (.int (nI t))] [] (HH (cpF w.2.1 st2 (4 * w.2.2)) (cpF w.1 gd2 t)) := by
    intro m
    induction m with
    | zero =>
      intro t htm
      have hl : (15 : Int32) ≤ nI t := nI_le (a := 15) (by omega) (by omega)
      have ht : t = 15 := by omega
      subst ht
      refine gw_ev (T := gT0) 60 [] gRt_m (gTO_0 _ _ _ ⟨Nat.le_refl _, Nat.le_refl _⟩) ?_
      simp only [vc_i, vc_l, vc_r, vc_n, Nat.succ_ne_self, gSd_s, gEd_s, gEd_0, gEd_B, gB_t, gB_f, gGo_c, gGo_n, gAll_n, gAll_c, gwK_s, gCT, gCF, gSet, gSet2, gKill, gTw, gTs, gLs, List.map_cons, List.map_nil, fv0, fv1, fv2, fv3, List.getElem?_cons_zero, List.getElem?_cons_succ, List.set_cons_zero, List.set_cons_succ, List.not_mem_nil, List.mem_cons, Option.toList_some, Option.toList_none, List.cons_append, List.nil_append, if_false, if_true, true_and, and_true, forall_const, true_implies, false_implies, or_false, false_or, not_true_eq_false, not_false_eq_true, and_false, false_and, implies_true, Nat.reduceAdd, Nat.reduceEqDiff, Nat.reduceLT, ↓reduceIte, cls_RF_prove, st_aload_n, st_iconst, st_putfield, st_invokevirtual, st_getfield, st_istore_n, st_iload_n, st_imul, st_if_icmp, st_iaload, st_iastore, st_iinc, st_goto, st_bipush, st_ireturn, (show mRF_prove.2.2.1 = 2 from rfl), fp_RF_prove_94, tn_RF_196, (show gT0 126 = none from rfl), gF_RF_180, fp_RF_prove_199, gF_RF_59, gF_RF_56, gF_RF_65, gF_RF_62, dRF_prove_0, dRF_prove_1, ic_0, dRF_prove_2, dRF_prove_5, dRF_prove_6, dRF_prove_9, dRF_prove_10, dRF_prove_11, dRF_prove_14, dRF_prove_17, dRF_prove_18, dRF_prove_19, dRF_prove_20, ic_4, dRF_prove_21, dRF_prove_22, dRF_prove_25, dRF_prove_26, tg_26_21, tz_26_21, dRF_prove_29, dRF_prove_30, dRF_prove_33, dRF_prove_34, dRF_prove_35, dRF_prove_38, dRF_prove_39, dRF_prove_40, dRF_prove_41, ic_1, dRF_prove_44, tg_44_m25, tz_44_m25, dRF_prove_47, dRF_prove_48, dRF_prove_49, dRF_prove_50, bi_15, dRF_prove_52, tg_52_21, tz_52_21, dRF_prove_55, dRF_prove_56, dRF_prove_59, dRF_prove_60, dRF_prove_61, dRF_prove_64, dRF_prove_65, dRF_prove_66, dRF_prove_67, dRF_prove_70, tg_70_m21, tz_70_m21, dRF_prove_73, dRF_prove_74, dRF_prove_77, hl, r0, G11]
      exact rfl
    | succ m ih =>
      intro t htm
      have hl : ¬ (15 : Int32) ≤ nI t := nI_ge (b := 15) (by omega) (by omega)
      have ct : (nI t).toNatClampNeg = t := nI_clamp (by omega)
      have vt : vp_in (nI t) 15 := vp_in_nI (by omega) (by omega)
      have h9 := ih (t + 1) (by omega)
      refine gw_ev (T := gT0) 60 [49] gRt_m (gTO_0 _ _ _ ⟨Nat.le_refl _, Nat.le_refl _⟩) ?_
      simp only [vc_i, vc_l, vc_r, vc_n, Nat.succ_ne_self, gSd_s, gEd_s, gEd_0, gEd_B, gB_t, gB_f, gGo_c, gGo_n, gAll_n, gAll_c, gwK_s, gCT, gCF, gSet, gSet2, gKill, gTw, gTs, gLs, List.map_cons, List.map_nil, fv0, fv1, fv2, fv3, List.getElem?_cons_zero, List.getElem?_cons_succ, List.set_cons_zero, List.set_cons_succ, List.not_mem_nil, List.mem_cons, Option.toList_some, Option.toList_none, List.cons_append, List.nil_append, if_false, if_true, true_and, and_true, forall_const, true_implies, false_implies, or_false, false_or, not_true_eq_false, not_false_eq_true, and_false, false_and, implies_true, Nat.reduceAdd, Nat.reduceEqDiff, Nat.reduceLT, ↓reduceIte, cls_RF_prove, st_aload_n, st_iconst, st_putfield, st_invokevirtual, st_getfield, st_istore_n, st_iload_n, st_imul, st_if_icmp, st_iaload, st_iastore, st_iinc, st_goto, st_bipush, st_ireturn, (show mRF_prove.2.2.1 = 2 from rfl), fp_RF_prove_94, tn_RF_196, (show gT0 126 = none from rfl), gF_RF_180, fp_RF_prove_199, gF_RF_59, gF_RF_56, gF_RF_65, gF_RF_62, dRF_prove_0, dRF_prove_1, ic_0, dRF_prove_2, dRF_prove_5, dRF_prove_6, dRF_prove_9, dRF_prove_10, dRF_prove_11, dRF_prove_14, dRF_prove_17, dRF_prove_18, dRF_prove_19, dRF_prove_20, ic_4, dRF_prove_21, dRF_prove_22, dRF_prove_25, dRF_prove_26, tg_26_21, tz_26_21, dRF_prove_29, dRF_prove_30, dRF_prove_33, dRF_prove_34, dRF_prove_35, dRF_prove_38, dRF_prove_39, dRF_prove_40, dRF_prove_41, ic_1, dRF_prove_44, tg_44_m25, tz_44_m25, dRF_prove_47, dRF_prove_48, dRF_prove_49, dRF_prove_50, bi_15, dRF_prove_52, tg_52_21, tz_52_21, dRF_prove_55, dRF_prove_56, dRF_prove_59, dRF_prove_60, dRF_prove_61, dRF_prove_64, dRF_prove_65, dRF_prove_66, dRF_prove_67, dRF_prove_70, tg_70_m21, tz_70_m21, dRF_prove_73, dRF_prove_74, dRF_prove_77, hl, r0, r1, r4, G15, G16, ct, p4, cpF_s, nI_1]
      exact ⟨⟨hcI, vt⟩, ⟨hcI, vt⟩, h9⟩
  have loop1 : ∀ m k : Nat, k + m = 4 * w.2.2 → gw l g mRF_prove (gr 8) H0 (gZm g H0 0 0 (fun r h' => r = some (.int (nI w.2.2)) ∧ h' = HH (cpF w.2.1 st2 (4 * w.2.2)) (cpF w.1 gd2 15))) 0 0 19 [some (.ref o), some (.int (nI k))] [] (HH (cpF w.2.1 st2 k) gd2) := by
    intro m
    induction m with
    | zero =>
      intro k hkm
      have hl : nI (4 * w.2.2) ≤ nI k := nI_le (by omega) (by omega)
      have h9 := loop2 15 0 (by omega)
      rw [nI_0, cpF_0] at h9
      have hk : k = 4 * w.2.2 := by omega
      subst hk
      refine gw_ev (T := gT0) 60 [49] gRt_m (gTO_0 _ _ _ ⟨Nat.le_refl _, Nat.le_refl _⟩) ?_
      simp only [vc_i, vc_l, vc_r, vc_n, Nat.succ_ne_self, gSd_s, gEd_s, gEd_0, gEd_B, gB_t, gB_f, gGo_c, gGo_n, gAll_n, gAll_c, gwK_s, gCT, gCF, gSet, gSet2, gKill, gTw, gTs, gLs, List.map_cons, List.map_nil, fv0, fv1, fv2, fv3, List.getElem?_cons_zero, List.getElem?_cons_succ, List.set_cons_zero, List.set_cons_succ, List.not_mem_nil, List.mem_cons, Option.toList_some, Option.toList_none, List.cons_append, List.nil_append, if_false, if_true, true_and, and_true, forall_const, true_implies, false_implies, or_false, false_or, not_true_eq_false, not_false_eq_true, and_false, false_and, implies_true, Nat.reduceAdd, Nat.reduceEqDiff, Nat.reduceLT, ↓reduceIte, cls_RF_prove, st_aload_n, st_iconst, st_putfield, st_invokevirtual, st_getfield, st_istore_n, st_iload_n, st_imul, st_if_icmp, st_iaload, st_iastore, st_iinc, st_goto, st_bipush, st_ireturn, (show mRF_prove.2.2.1 = 2 from rfl), fp_RF_prove_94, tn_RF_196, (show gT0 126 = none from rfl), gF_RF_180, fp_RF_prove_199, gF_RF_59, gF_RF_56, gF_RF_65, gF_RF_62, dRF_prove_0, dRF_prove_1, ic_0, dRF_prove_2, dRF_prove_5, dRF_prove_6, dRF_prove_9, dRF_prove_10, dRF_prove_11, dRF_prove_14, dRF_prove_17, dRF_prove_18, dRF_prove_19, dRF_prove_20, ic_4, dRF_prove_21, dRF_prove_22, dRF_prove_25, dRF_prove_26, tg_26_21, tz_26_21, dRF_prove_29, dRF_prove_30, dRF_prove_33, dRF_prove_34, dRF_prove_35, dRF_prove_38, dRF_prove_39, dRF_prove_40, dRF_prove_41, ic_1, dRF_prove_44, tg_44_m25, tz_44_m25, dRF_prove_47, dRF_prove_48, dRF_prove_49, dRF_prove_50, bi_15, dRF_prove_52, tg_52_21, tz_52_21, dRF_prove_55, dRF_prove_56, dRF_prove_59, dRF_prove_60, dRF_prove_61, dRF_prove_64, dRF_prove_65, dRF_prove_66, dRF_prove_67, dRF_prove_70, tg_70_m21, tz_70_m21, dRF_prove_73, dRF_prove_74, dRF_prove_77, hl, r0, G11, l4]
      exact h9
    | succ m ih =>
      intro k hkm
      have hl : ¬ nI (4 * w.2.2) ≤ nI k := nI_ge (by omega) (by omega)
      have ck : (nI k).toNatClampNeg = k := nI_clamp (by omega)
      have vk : vp_in (nI k) 400 := vp_in_nI (by omega) (by omega)
      have h9 := ih (k + 1) (by omega)
      refine gw_ev (T := gT0) 60 [19] gRt_m (gTO_0 _ _ _ ⟨Nat.le_refl _, Nat.le_refl _⟩) ?_
      simp only [vc_i, vc_l, vc_r, vc_n, Nat.succ_ne_self, gSd_s, gEd_s, gEd_0, gEd_B, gB_t, gB_f, gGo_c, gGo_n, gAll_n, gAll_c, gwK_s, gCT, gCF, gSet, gSet2, gKill, gTw, gTs, gLs, List.map_cons, List.map_nil, fv0, fv1, fv2, fv3, List.getElem?_cons_zero, List.getElem?_cons_succ, List.set_cons_zero, List.set_cons_succ, List.not_mem_nil, List.mem_cons, Option.toList_some, Option.toList_none, List.cons_append, List.nil_append, if_false, if_true, true_and, and_true, forall_const, true_implies, false_implies, or_false, false_or, not_true_eq_false, not_false_eq_true, and_false, false_and, implies_true, Nat.reduceAdd, Nat.reduceEqDiff, Nat.reduceLT, ↓reduceIte, cls_RF_prove, st_aload_n, st_iconst, st_putfield, st_invokevirtual, st_getfield, st_istore_n, st_iload_n, st_imul, st_if_icmp, st_iaload, st_iastore, st_iinc, st_goto, st_bipush, st_ireturn, (show mRF_prove.2.2.1 = 2 from rfl), fp_RF_prove_94, tn_RF_196, (show gT0 126 = none from rfl), gF_RF_180, fp_RF_prove_199, gF_RF_59, gF_RF_56, gF_RF_65, gF_RF_62, dRF_prove_0, dRF_prove_1, ic_0, dRF_prove_2, dRF_prove_5, dRF_prove_6, dRF_prove_9, dRF_prove_10, dRF_prove_11, dRF_prove_14, dRF_prove_17, dRF_prove_18, dRF_prove_19, dRF_prove_20, ic_4, dRF_prove_21, dRF_prove_22, dRF_prove_25, dRF_prove_26, tg_26_21, tz_26_21, dRF_prove_29, dRF_prove_30, dRF_prove_33, dRF_prove_34, dRF_prove_35, dRF_prove_38, dRF_prove_39, dRF_prove_40, dRF_prove_41, ic_1, dRF_prove_44, tg_44_m25, tz_44_m25, dRF_prove_47, dRF_prove_48, dRF_prove_49, dRF_prove_50, bi_15, dRF_prove_52, tg_52_21, tz_52_21, dRF_prove_55, dRF_prove_56, dRF_prove_59, dRF_prove_60, dRF_prove_61, dRF_prove_64, dRF_prove_65, dRF_prove_66, dRF_prove_67, dRF_prove_70, tg_70_m21, tz_70_m21, dRF_prove_73, dRF_prove_74, dRF_prove_77, hl, r0, r2, r3, G11, G13, G14, l4, ck, p3, cpF_s, nI_1]
      exact ⟨⟨hcI, vk⟩, ⟨hcI, vk⟩, h9⟩
  have h9 := loop1 (4 * w.2.2) 0 (by omega)
  clear loop1 loop2
  rw [nI_0, cpF_0] at h9
  obtain ⟨H, hH⟩ : ∃ H, H = hWK cI o gA sA (fs.set 1 (.int 0)) w h := ⟨_, rfl⟩
  rw [← hH] at cw
  have j0 : H o = some (.inr (6, (fs.set 1 (.int 0)).set 11 (.int (nI w.2.2)))) := by rw [hH]; exact gh3_g0 hap3
  have j11 : ((fs.set 1 (.int 0)).set 11 (.int (nI w.2.2)))[11]? = some (.int (nI w.2.2)) := List.getElem?_set_self (by rw [List.length_set]; omega)
  have jl : ((fs.set 1 (.int 0)).set 11 (.int (nI w.2.2))).length = 33 := by rw [List.length_set, List.length_set]; exact hlen
  have hgu : gup H o (.inr (6, ((fs.set 1 (.int 0)).set 11 (.int (nI w.2.2))).set 12 (.int (nI w.2.2)))) = HH st2 gd2 := by
    rw [hH, hHH]
    unfold hWK
    rw [gh3_p0 hap3, List.set_comm _ _ (by omega)]
    show _ = gh3 _ _ _ _ _ _ _
    rw [gh2_id hsB hgB]
  refine gC_of (lv0 := [some (.ref o), none]) (by decide +kernel) (Nat.le_of_ble_eq_true rfl) (fun q hq => hq) ⟨rfl, rfl⟩ ?_
  refine gw_ev (T := gT0) 60 [] gRt_m (gTO_0 _ _ _ ⟨Nat.le_refl _, Nat.le_refl _⟩) ?_
  simp only [vc_i, vc_l, vc_r, vc_n, Nat.succ_ne_self, gSd_s, gEd_s, gEd_0, gEd_B, gB_t, gB_f, gGo_c, gGo_n, gAll_n, gAll_c, gwK_s, gCT, gCF, gSet, gSet2, gKill, gTw, gTs, gLs, List.map_cons, List.map_nil, fv0, fv1, fv2, fv3, List.getElem?_cons_zero, List.getElem?_cons_succ, List.set_cons_zero, List.set_cons_succ, List.not_mem_nil, List.mem_cons, Option.toList_some, Option.toList_none, List.cons_append, List.nil_append, if_false, if_true, true_and, and_true, forall_const, true_implies, false_implies, or_false, false_or, not_true_eq_false, not_false_eq_true, and_false, false_and, implies_true, Nat.reduceAdd, Nat.reduceEqDiff, Nat.reduceLT, ↓reduceIte, cls_RF_prove, st_aload_n, st_iconst, st_putfield, st_invokevirtual, st_getfield, st_istore_n, st_iload_n, st_imul, st_if_icmp, st_iaload, st_iastore, st_iinc, st_goto, st_bipush, st_ireturn, (show mRF_prove.2.2.1 = 2 from rfl), fp_RF_prove_94, tn_RF_196, (show gT0 126 = none from rfl), gF_RF_180, fp_RF_prove_199, gF_RF_59, gF_RF_56, gF_RF_65, gF_RF_62, dRF_prove_0, dRF_prove_1, ic_0, dRF_prove_2, dRF_prove_5, dRF_prove_6, dRF_prove_9, dRF_prove_10, dRF_prove_11, dRF_prove_14, dRF_prove_17, dRF_prove_18, dRF_prove_19, dRF_prove_20, ic_4, dRF_prove_21, dRF_prove_22, dRF_prove_25, dRF_prove_26, tg_26_21, tz_26_21, dRF_prove_29, dRF_prove_30, dRF_prove_33, dRF_prove_34, dRF_prove_35, dRF_prove_38, dRF_prove_39, dRF_prove_40, dRF_prove_41, ic_1, dRF_prove_44, tg_44_m25, tz_44_m25, dRF_prove_47, dRF_prove_48, dRF_prove_49, dRF_prove_50, bi_15, dRF_prove_52, tg_52_21, tz_52_21, dRF_prove_55, dRF_prove_56, dRF_prove_59, dRF_prove_60, dRF_prove_61, dRF_prove_64, dRF_prove_65, dRF_prove_66, dRF_prove_67, dRF_prove_70, tg_70_m21, tz_70_m21, dRF_prove_73, dRF_prove_74, dRF_prove_77, kk0, Fl]
  refine ⟨fit_i _, ?_⟩
  rw [← hH1]
  refine gw_cV (r := []) dRF_prove_6 (cw) rfl (k0) rfl wc_RF_work wl_RF_196 wi_RF_work ws_RF_work wn_RF (by show _ ∧ _ ∧ _ = some 0; decide +kernel) (by decide) (gr_ge (by first | decide | omega)) (Nat.le_of_ble_eq_true rfl) ⟨Nat.le_refl _, Nat.le_refl _⟩ ?_
  refine gw_ev (T := gT0) 60 [19] gRt_m (gTO_0 _ _ _ ⟨Nat.le_refl _, Nat.le_refl _⟩) ?_
  simp only [vc_i, vc_l, vc_r, vc_n, Nat.succ_ne_self, gSd_s, gEd_s, gEd_0, gEd_B, gB_t, gB_f, gGo_c, gGo_n, gAll_n, gAll_c, gwK_s, gCT, gCF, gSet, gSet2, gKill, gTw, gTs, gLs, List.map_cons, List.map_nil, fv0, fv1, fv2, fv3, List.getElem?_cons_zero, List.getElem?_cons_succ, List.set_cons_zero, List.set_cons_succ, List.not_mem_nil, List.mem_cons, Option.toList_some, Option.toList_none, List.cons_append, List.nil_append, if_false, if_true, true_and, and_true, forall_const, true_implies, false_implies, or_false, false_or, not_true_eq_false, not_false_eq_true, and_false, false_and, implies_true, Nat.reduceAdd, Nat.reduceEqDiff, Nat.reduceLT, ↓reduceIte, cls_RF_prove, st_aload_n, st_iconst, st_putfield, st_invokevirtual, st_getfield, st_istore_n, st_iload_n, st_imul, st_if_icmp, st_iaload, st_iastore, st_iinc, st_goto, st_bipush, st_ireturn, (show mRF_prove.2.2.1 = 2 from rfl), fp_RF_prove_94, tn_RF_196, (show gT0 126 = none from rfl), gF_RF_180, fp_RF_prove_199, gF_RF_59, gF_RF_56, gF_RF_65, gF_RF_62, dRF_prove_0, dRF_prove_1, ic_0, dRF_prove_2, dRF_prove_5, dRF_prove_6, dRF_prove_9, dRF_prove_10, dRF_prove_11, dRF_prove_14, dRF_prove_17, dRF_prove_18, dRF_prove_19, dRF_prove_20, ic_4, dRF_prove_21, dRF_prove_22, dRF_prove_25, dRF_prove_26, tg_26_21, tz_26_21, dRF_prove_29, dRF_prove_30, dRF_prove_33, dRF_prove_34, dRF_prove_35, dRF_prove_38, dRF_prove_39, dRF_prove_40, dRF_prove_41, ic_1, dRF_prove_44, tg_44_m25, tz_44_m25, dRF_prove_47, dRF_prove_48, dRF_prove_49, dRF_prove_50, bi_15, dRF_prove_52, tg_52_21, tz_52_21, dRF_prove_55, dRF_prove_56, dRF_prove_59, dRF_prove_60, dRF_prove_61, dRF_prove_64, dRF_prove_65, dRF_prove_66, dRF_prove_67, dRF_prove_70, tg_70_m21, tz_70_m21, dRF_prove_73, dRF_prove_74, dRF_prove_77, j0, j11, jl]
  refine ⟨fit_i _, ?_⟩
  rw [hgu]
  exact h9
