-- needs 10 11 12 13 14 15 16 17 18 18b 18c 18d 19 21 30 31 32 33 40 41
def gaK (N M : Nat) (s : MS) (k : Nat) : MS := (segF id M 0).foldl (fun s i => gfF N M k (tAt N i) s) s
def gaF (N M : Nat) (s : MS) : MS := (segF id 7 0).foldl (gaK N M) (s.1, s.2.1, 0, s.2.2.2)
theorem gaK_cnt {N M k : Nat} {s : MS} (h : s.2.2.1 ≤ 320) : (gaK N M s k).2.2.1 ≤ 320 := fold_cnt (fun _ _ h => gfF_cnt h) _ s h
set_option maxRecDepth 100000 in
set_option maxHeartbeats 4000000 in
theorem c_MA_gather (l : Launch) (g : gG) (cI : ClassId) (hcI : (cI, FieldType.int) ∈ g.2.1) (A : Nat → Nat) (hA : apM A) (N K : Nat) (hN : 0 < N ∧ N ≤ 5) (hK : K ≤ 3) (rA : Nat) (s0 : MS) (h : gH) : gC l g mMA_gather (gr 3) [.ref (A 0)] (hMA cI A (nI N) (nI (N * K)) rA s0 h) (fun r h' => r = none ∧ h' = hMA cI A (nI N) (nI (N * K)) rA (gaF N (N * K) s0) h) := by
  obtain ⟨T, hT⟩ : ∃ T, T = gaF N (N * K) s0 := ⟨_, rfl⟩
  obtain ⟨H0, hH0⟩ : ∃ H, H = hMA cI A (nI N) (nI (N * K)) rA s0 h := ⟨_, rfl⟩
  have hMb : N * K ≤ 15 := Nat.mul_le_mul hN.2 hK
  have n0 : ¬ nI N = 0 := nI_ne0 hN.1 (by omega)
  have r0 : ∀ {s : MS} {H : gH}, H = hMA cI A (nI N) (nI (N * K)) rA s h → H (A 0) = some (.inr (1, fMA (nI N) (nI (N * K)) A rA s.2.2.1 s.2.2.2)) := by
    intro s H hH
    rw [hH]
    exact gh3_g2 hA
  rw [← hT, ← hH0]
  have loop : ∀ (m k : Nat) (s : MS) (H : gH), k + m = 7 → H = hMA cI A (nI N) (nI (N * K)) rA s h → s.2.2.1 ≤ 320 → (segF id m k).foldl (gaK N (N * K)) s = T → gw l g mMA_gather (gr 3) H0 (gZm g H0 0 0 (fun r h' => r = none ∧ h' = hMA cI A (nI N) (nI (N * K)) rA T h)) 0 0 7 [some (.ref (A 0)), some (.int (nI k)), none] [] H := by
    intro m
    induction m with
    | zero =>
      intro k s H hk hH hs hb
      have hz : (6 : Int32) < nI k := nI_lt (a := 6) (by omega) (by omega)
      refine gw_ev (T := gT0) 60 [7, 15] gRt_m (gTO_0 _ _ _ ⟨Nat.le_refl _, Nat.le_refl _⟩) ?_
      simp only [vc_i, vc_l, vc_r, vc_n, Nat.succ_ne_self, gSd_s, gEd_s, gEd_0, gEd_B, gB_t, gB_f, gGo_c, gGo_n, gAll_n, gAll_c, gwK_s, gCT, gCF, gSet, gSet2, gKill, gTw, gTs, gLs, List.map_cons, List.map_nil, fv0, fv1, fv2, fv3, List.getElem?_cons_zero, List.getElem?_cons_succ, List.set_cons_zero, List.set_cons_succ, List.not_mem_nil, List.mem_cons, Option.toList_some, Option.toList_none, List.cons_append, List.nil_append, if_false, if_true, true_and, and_true, forall_const, true_implies, false_implies, or_false, false_or, not_true_eq_false, not_false_eq_true, and_false, false_and, implies_true, Nat.reduceAdd, Nat.reduceEqDiff, Nat.reduceLT, ↓reduceIte, cls_MA_gather, st_aload_n, st_iconst, st_putfield, st_istore_n, st_iload_n, st_bipush, st_if_icmp, st_getfield, st_invokestatic, st_invokevirtual, st_iinc, st_goto, st_return_, (show mMA_gather.2.2.1 = 3 from rfl), fp_MA_gather_48, gF_MA_29, gF_MA_25, tn_MA_78, (show gT0 30 = none from rfl), tn_MA_88, (show gT0 90 = none from rfl), dMA_gather_0, dMA_gather_1, ic_0, dMA_gather_2, dMA_gather_5, dMA_gather_6, dMA_gather_7, dMA_gather_8, bi_6, dMA_gather_10, tg_10_38, tz_10_38, dMA_gather_13, dMA_gather_14, dMA_gather_15, dMA_gather_16, dMA_gather_17, dMA_gather_20, tg_20_22, tz_20_22, dMA_gather_23, dMA_gather_24, dMA_gather_25, dMA_gather_26, dMA_gather_27, dMA_gather_30, dMA_gather_33, dMA_gather_36, ic_1, dMA_gather_39, tg_39_m24, tz_39_m24, dMA_gather_42, dMA_gather_45, tg_45_m38, tz_45_m38, dMA_gather_48, hz]
      refine ⟨rfl, ?_⟩
      rw [hH, ← hb]
      rfl
    | succ m ih =>
      intro k s H hk hH hs hb
      have hb2 : (segF id m (k + 1)).foldl (gaK N (N * K)) (gaK N (N * K) s k) = T := hb
      have hz : ¬ (6 : Int32) < nI k := nI_nlt (b := k) (a := 6) (by omega) (by omega)
      obtain ⟨U, hU⟩ : ∃ U, U = gaK N (N * K) s k := ⟨_, rfl⟩
      rw [← hU] at hb2
      have loop2 : ∀ (m2 i : Nat) (s2 : MS) (H2 : gH), i + m2 = N * K → H2 = hMA cI A (nI N) (nI (N * K)) rA s2 h → s2.2.2.1 ≤ 320 → (segF id m2 i).foldl (fun s i => gfF N (N * K) k (tAt N i) s) s2 = U → gw l g mMA_gather (gr 3) H0 (gZm g H0 0 0 (fun r h' => r = none ∧ h' = hMA cI A (nI N) (nI (N * K)) rA T h)) 0 0 15 [some (.ref (A 0)), some (.int (nI k)), some (.int (nI i))] [] H2 := by
        intro m2
        induction m2 with
        | zero =>
          intro i s2 H2 hi hH2 hs2 hb3
          have k0 := r0 hH2
          have hz2 : nI (N * K) ≤ nI i := nI_le (by omega) (by omega)
          have hb4 : s2 = U := hb3
          rw [← hb4] at hb2
          refine gw_ev (T := gT0) 60 [7, 15] gRt_m (gTO_0 _ _ _ ⟨Nat.le_refl _, Nat.le_refl _⟩) ?_
          simp only [vc_i, vc_l, vc_r, vc_n, Nat.succ_ne_self, gSd_s, gEd_s, gEd_0, gEd_B, gB_t, gB_f, gGo_c, gGo_n, gAll_n, gAll_c, gwK_s, gCT, gCF, gSet, gSet2, gKill, gTw, gTs, gLs, List.map_cons, List.map_nil, fv0, fv1, fv2, fv3, List.getElem?_cons_zero, List.getElem?_cons_succ, List.set_cons_zero, List.set_cons_succ, List.not_mem_nil, List.mem_cons, Option.toList_some, Option.toList_none, List.cons_append, List.nil_append, if_false, if_true, true_and, and_true, forall_const, true_implies, false_implies, or_false, false_or, not_true_eq_false, not_false_eq_true, and_false, false_and, implies_true, Nat.reduceAdd, Nat.reduceEqDiff, Nat.reduceLT, ↓reduceIte, cls_MA_gather, st_aload_n, st_iconst, st_putfield, st_istore_n, st_iload_n, st_bipush, st_if_icmp, st_getfield, st_invokestatic, st_invokevirtual, st_iinc, st_goto, st_return_, (show mMA_gather.2.2.1 = 3 from rfl), fp_MA_gather_48, gF_MA_29, gF_MA_25, tn_MA_78, (show gT0 30 = none from rfl), tn_MA_88, (show gT0 90 = none from rfl), dMA_gather_0, dMA_gather_1, ic_0, dMA_gather_2, dMA_gather_5, dMA_gather_6, dMA_gather_7, dMA_gather_8, bi_6, dMA_gather_10, tg_10_38, tz_10_38, dMA_gather_13, dMA_gather_14, dMA_gather_15, dMA_gather_16, dMA_gather_17, dMA_gather_20, tg_20_22, tz_20_22, dMA_gather_23, dMA_gather_24, dMA_gather_25, dMA_gather_26, dMA_gather_27, dMA_gather_30, dMA_gather_33, dMA_gather_36, ic_1, dMA_gather_39, tg_39_m24, tz_39_m24, dMA_gather_42, dMA_gather_45, tg_45_m38, tz_45_m38, dMA_gather_48, k0, fMA, hz2, nI_1]
          exact gw_less (lv' := [some (.ref (A 0)), some (.int (nI (k + 1))), none]) (by simp [gLe]) (ih (k + 1) s2 H2 (by omega) hH2 hs2 hb2)
        | succ m2 ih2 =>
          intro i s2 H2 hi hH2 hs2 hb3
          have hb4 : (segF id m2 (i + 1)).foldl (fun s i => gfF N (N * K) k (tAt N i) s) (gfF N (N * K) k (tAt N i) s2) = U := hb3
          have k0 := r0 hH2
          have hz2 : ¬ nI (N * K) ≤ nI i := nI_ge (by omega) (by omega)
          have ht2 := tAt_lt hN hK (i := i) (by omega)
          have te2 := tAt_eq hN.1 hN.2 (i := i) (by omega)
          have hC := c_MA_gatherFor l g cI hcI A hA N K hN hK rA k (tAt N i) (by omega) (by omega) s2 hs2 h
          rw [← hH2] at hC
          refine gw_ev (T := gT1) 60 [7, 15] gRt_m ⟨1, kgT1, gr_ge (by first | decide | omega), ⟨Nat.le_refl _, Nat.le_refl _⟩⟩ ?_
          simp only [vc_i, vc_l, vc_r, vc_n, Nat.succ_ne_self, gSd_s, gEd_s, gEd_0, gEd_B, gB_t, gB_f, gGo_c, gGo_n, gAll_n, gAll_c, gwK_s, gCT, gCF, gSet, gSet2, gKill, gTw, gTs, gLs, List.map_cons, List.map_nil, fv0, fv1, fv2, fv3, List.getElem?_cons_zero, List.getElem?_cons_succ, List.set_cons_zero, List.set_cons_succ, List.not_mem_nil, List.mem_cons, Option.toList_some, Option.toList_none, List.cons_append, List.nil_append, if_false, if_true, true_and, and_true, forall_const, true_implies, false_implies, or_false, false_or, not_true_eq_false, not_false_eq_true, and_false, false_and, implies_true, Nat.reduceAdd, Nat.reduceEqDiff, Nat.reduceLT, ↓reduceIte, cls_MA_gather, st_aload_n, st_iconst, st_putfield, st_istore_n, st_iload_n, st_bipush, st_if_icmp, st_getfield, st_invokestatic, st_invokevirtual, st_iinc, st_goto, st_return_, (show mMA_gather.2.2.1 = 3 from rfl), fp_MA_gather_48, gF_MA_29, gF_MA_25, tn_MA_78, gT1_30, gp_CO_thingAt, ms_30, gCs_n, gCs_c, Nat.reduceLeDiff, tn_MA_88, (show gT1 90 = none from rfl), dMA_gather_0, dMA_gather_1, ic_0, dMA_gather_2, dMA_gather_5, dMA_gather_6, dMA_gather_7, dMA_gather_8, bi_6, dMA_gather_10, tg_10_38, tz_10_38, dMA_gather_13, dMA_gather_14, dMA_gather_15, dMA_gather_16, dMA_gather_17, dMA_gather_20, tg_20_22, tz_20_22, dMA_gather_23, dMA_gather_24, dMA_gather_25, dMA_gather_26, dMA_gather_27, dMA_gather_30, dMA_gather_33, dMA_gather_36, ic_1, dMA_gather_39, tg_39_m24, tz_39_m24, dMA_gather_42, dMA_gather_45, tg_45_m38, tz_45_m38, dMA_gather_48, k0, fMA, hz2, te2]
          refine ⟨n0, ?_⟩
          refine gw_cV (r := []) dMA_gather_33 (hC) rfl (k0) rfl wc_MA_gatherFor wl_MA_88 wi_MA_gatherFor ws_MA_gatherFor wn_MA (by show _ ∧ _ ∧ _ = some 2; decide +kernel) (by decide) (gr_ge (by first | decide | omega)) (Nat.le_of_ble_eq_true rfl) ⟨Nat.le_refl _, Nat.le_refl _⟩ ?_
          refine gw_ev (T := gT0) 60 [7, 15] gRt_m (gTO_0 _ _ _ ⟨Nat.le_refl _, Nat.le_refl _⟩) ?_
          simp only [vc_i, vc_l, vc_r, vc_n, Nat.succ_ne_self, gSd_s, gEd_s, gEd_0, gEd_B, gB_t, gB_f, gGo_c, gGo_n, gAll_n, gAll_c, gwK_s, gCT, gCF, gSet, gSet2, gKill, gTw, gTs, gLs, List.map_cons, List.map_nil, fv0, fv1, fv2, fv3, List.getElem?_cons_zero, List.getElem?_cons_succ, List.set_cons_zero, List.set_cons_succ, List.not_mem_nil, List.mem_cons, Option.toList_some, Option.toList_none, List.cons_append, List.nil_append, if_false, if_true, true_and, and_true, forall_const, true_implies, false_implies, or_false, false_or, not_true_eq_false, not_false_eq_true, and_false, false_and, implies_true, Nat.reduceAdd, Nat.reduceEqDiff, Nat.reduceLT, ↓reduceIte, cls_MA_gather, st_aload_n, st_iconst, st_putfield, st_istore_n, st_iload_n, st_bipush, st_if_icmp, st_getfield, st_invokestatic, st_invokevirtual, st_iinc, st_goto, st_return_, (show mMA_gather.2.2.1 = 3 from rfl), fp_MA_gather_48, gF_MA_29, gF_MA_25, tn_MA_78, (show gT0 30 = none from rfl), tn_MA_88, (show gT0 90 = none from rfl), dMA_gather_0, dMA_gather_1, ic_0, dMA_gather_2, dMA_gather_5, dMA_gather_6, dMA_gather_7, dMA_gather_8, bi_6, dMA_gather_10, tg_10_38, tz_10_38, dMA_gather_13, dMA_gather_14, dMA_gather_15, dMA_gather_16, dMA_gather_17, dMA_gather_20, tg_20_22, tz_20_22, dMA_gather_23, dMA_gather_24, dMA_gather_25, dMA_gather_26, dMA_gather_27, dMA_gather_30, dMA_gather_33, dMA_gather_36, ic_1, dMA_gather_39, tg_39_m24, tz_39_m24, dMA_gather_42, dMA_gather_45, tg_45_m38, tz_45_m38, dMA_gather_48, nI_1]
          exact ih2 (i + 1) _ _ (by omega) rfl (gfF_cnt hs2) hb4
      have h9 := loop2 (N * K) 0 s H (by omega) hH hs hU.symm
      rw [nI_0] at h9
      refine gw_ev (T := gT0) 60 [7, 15] gRt_m (gTO_0 _ _ _ ⟨Nat.le_refl _, Nat.le_refl _⟩) ?_
      simp only [vc_i, vc_l, vc_r, vc_n, Nat.succ_ne_self, gSd_s, gEd_s, gEd_0, gEd_B, gB_t, gB_f, gGo_c, gGo_n, gAll_n, gAll_c, gwK_s, gCT, gCF, gSet, gSet2, gKill, gTw, gTs, gLs, List.map_cons, List.map_nil, fv0, fv1, fv2, fv3, List.getElem?_cons_zero, List.getElem?_cons_succ, List.set_cons_zero, List.set_cons_succ, List.not_mem_nil, List.mem_cons, Option.toList_some, Option.toList_none, List.cons_append, List.nil_append, if_false, if_true, true_and, and_true, forall_const, true_implies, false_implies, or_false, false_or, not_true_eq_false, not_false_eq_true, and_false, false_and, implies_true, Nat.reduceAdd, Nat.reduceEqDiff, Nat.reduceLT, ↓reduceIte, cls_MA_gather, st_aload_n, st_iconst, st_putfield, st_istore_n, st_iload_n, st_bipush, st_if_icmp, st_getfield, st_invokestatic, st_invokevirtual, st_iinc, st_goto, st_return_, (show mMA_gather.2.2.1 = 3 from rfl), fp_MA_gather_48, gF_MA_29, gF_MA_25, tn_MA_78, (show gT0 30 = none from rfl), tn_MA_88, (show gT0 90 = none from rfl), dMA_gather_0, dMA_gather_1, ic_0, dMA_gather_2, dMA_gather_5, dMA_gather_6, dMA_gather_7, dMA_gather_8, bi_6, dMA_gather_10, tg_10_38, tz_10_38, dMA_gather_13, dMA_gather_14, dMA_gather_15, dMA_gather_16, dMA_gather_17, dMA_gather_20, tg_20_22, tz_20_22, dMA_gather_23, dMA_gather_24, dMA_gather_25, dMA_gather_26, dMA_gather_27, dMA_gather_30, dMA_gather_33, dMA_gather_36, ic_1, dMA_gather_39, tg_39_m24, tz_39_m24, dMA_gather_42, dMA_gather_45, tg_45_m38, tz_45_m38, dMA_gather_48, hz]
      exact h9
  have k0 := r0 hH0
  refine gC_of (lv0 := [some (.ref (A 0)), none, none]) (by decide +kernel) (Nat.le_of_ble_eq_true rfl) (fun q hq => hq) ⟨rfl, rfl⟩ ?_
  have h9 := loop 7 0 (s0.1, s0.2.1, 0, s0.2.2.2) (gup H0 (A 0) (.inr (1, fMA (nI N) (nI (N * K)) A rA 0 s0.2.2.2))) (by omega) (by rw [hH0]; exact gh3_p2 hA) (by show 0 ≤ 320; omega) hT.symm
  rw [nI_0] at h9
  refine gw_ev (T := gT0) 60 [7, 15] gRt_m (gTO_0 _ _ _ ⟨Nat.le_refl _, Nat.le_refl _⟩) ?_
  simp only [vc_i, vc_l, vc_r, vc_n, Nat.succ_ne_self, gSd_s, gEd_s, gEd_0, gEd_B, gB_t, gB_f, gGo_c, gGo_n, gAll_n, gAll_c, gwK_s, gCT, gCF, gSet, gSet2, gKill, gTw, gTs, gLs, List.map_cons, List.map_nil, fv0, fv1, fv2, fv3, List.getElem?_cons_zero, List.getElem?_cons_succ, List.set_cons_zero, List.set_cons_succ, List.not_mem_nil, List.mem_cons, Option.toList_some, Option.toList_none, List.cons_append, List.nil_append, if_false, if_true, true_and, and_true, forall_const, true_implies, false_implies, or_false, false_or, not_true_eq_false, not_false_eq_true, and_false, false_and, implies_true, Nat.reduceAdd, Nat.reduceEqDiff, Nat.reduceLT, ↓reduceIte, cls_MA_gather, st_aload_n, st_iconst, st_putfield, st_istore_n, st_iload_n, st_bipush, st_if_icmp, st_getfield, st_invokestatic, st_invokevirtual, st_iinc, st_goto, st_return_, (show mMA_gather.2.2.1 = 3 from rfl), fp_MA_gather_48, gF_MA_29, gF_MA_25, tn_MA_78, (show gT0 30 = none from rfl), tn_MA_88, (show gT0 90 = none from rfl), dMA_gather_0, dMA_gather_1, ic_0, dMA_gather_2, dMA_gather_5, dMA_gather_6, dMA_gather_7, dMA_gather_8, bi_6, dMA_gather_10, tg_10_38, tz_10_38, dMA_gather_13, dMA_gather_14, dMA_gather_15, dMA_gather_16, dMA_gather_17, dMA_gather_20, tg_20_22, tz_20_22, dMA_gather_23, dMA_gather_24, dMA_gather_25, dMA_gather_26, dMA_gather_27, dMA_gather_30, dMA_gather_33, dMA_gather_36, ic_1, dMA_gather_39, tg_39_m24, tz_39_m24, dMA_gather_42, dMA_gather_45, tg_45_m38, tz_45_m38, dMA_gather_48, k0, fMA, List.length_cons, List.length_nil]
  exact ⟨fit_i _, h9⟩
def dnL : Nat → List Nat
  | 0 => []
  | k + 1 => (k + 1) :: dnL k
def mxS (s : MS) (k : Nat) : MS := (s.1, upd (upd s.2.1 k (s.2.1 (drN s.2.2.2 % (k + 1)))) (drN s.2.2.2 % (k + 1)) (s.2.1 k), s.2.2.1, drN s.2.2.2)
def mixF (s : MS) : MS := (dnL (s.2.2.1 - 1)).foldl mxS s
theorem drN_lt (v : Nat) : drN v < 2147483647 := Nat.mod_lt _ (by omega)
set_option maxRecDepth 100000 in
set_option maxHeartbeats 4000000 in
theorem c_MA_mix (l : Launch) (g : gG) (cI : ClassId) (hcI : (cI, FieldType.int) ∈ g.2.1) (A : Nat → Nat) (hA : apM A) (N M : Int32) (rA : Nat) (s0 : MS) (hc0 : s0.2.2.1 ≤ 320) (hv0 : s0.2.2.2 < 2147483647) (h : gH) : gC l g mMA_mix (gr 1) [.ref (A 0)] (hMA cI A N M rA s0 h) (fun r h' => r = none ∧ h' = hMA cI A N M rA (mixF s0) h) := by
  obtain ⟨T, hT⟩ : ∃ T, T = mixF s0 := ⟨_, rfl⟩
  obtain ⟨H0, hH0⟩ : ∃ H, H = hMA cI A N M rA s0 h := ⟨_, rfl⟩
  have r0 : ∀ {s : MS} {H : gH}, H = hMA cI A N M rA s h → H (A 0) = some (.inr (1, fMA N M A rA s.2.2.1 s.2.2.2)) := by
    intro s H hH
    rw [hH]
    exact gh3_g2 hA
  have r2 : ∀ {s : MS} {H : gH}, H = hMA cI A N M rA s h → H (A 2) = some (.inl (cI, 320, .inl s.2.1)) := by
    intro s H hH
    rw [hH]
    exact gh3_g1 hA
  have d20 : A 0 ≠ A 2 := Ne.symm hA.2.2
  rw [← hT, ← hH0]
  have loop : ∀ (k : Nat) (s : MS) (H : gH), k < 320 → H = hMA cI A N M rA s h → s.2.2.2 < 2147483647 → (dnL k).foldl mxS s = T → gw l g mMA_mix (gr 1) H0 (gZm g H0 0 0 (fun r h' => r = none ∧ h' = hMA cI A N M rA T h)) 0 0 7 [some (.ref (A 0)), some (.int (nI k)), none, none] [] H := by
    intro k
    induction k with
    | zero =>
      intro s H hk hH hv hb
      have hz : nI 0 < 1 := by decide
      refine gw_ev (T := gT0) 60 [7] gRt_m (gTO_0 _ _ _ ⟨Nat.le_refl _, Nat.le_refl _⟩) ?_
      simp only [vc_i, vc_l, vc_r, vc_n, Nat.succ_ne_self, gSd_s, gEd_s, gEd_0, gEd_B, gB_t, gB_f, gGo_c, gGo_n, gAll_n, gAll_c, gwK_s, gCT, gCF, gSet, gSet2, gKill, gTw, gTs, gLs, List.map_cons, List.map_nil, fv0, fv1, fv2, fv3, List.getElem?_cons_zero, List.getElem?_cons_succ, List.set_cons_zero, List.set_cons_succ, List.not_mem_nil, List.mem_cons, Option.toList_some, Option.toList_none, List.cons_append, List.nil_append, if_false, if_true, true_and, and_true, forall_const, true_implies, false_implies, or_false, false_or, not_true_eq_false, not_false_eq_true, and_false, false_and, implies_true, Nat.reduceAdd, Nat.reduceEqDiff, Nat.reduceLT, ↓reduceIte, cls_MA_mix, st_aload_n, st_getfield, st_iconst, st_isub, st_istore_n, st_iload_n, st_if_icmp, st_iadd, st_invokevirtual, st_iaload, st_iastore, st_iinc, st_goto, st_return_, (show mMA_mix.2.2.1 = 4 from rfl), gF_MA_48, tn_MA_84, (show gT0 88 = none from rfl), gF_MA_15, dMA_mix_0, dMA_mix_1, dMA_mix_4, ic_1, dMA_mix_5, dMA_mix_6, dMA_mix_7, dMA_mix_8, dMA_mix_9, tg_9_43, tz_9_43, dMA_mix_12, dMA_mix_13, dMA_mix_14, dMA_mix_15, dMA_mix_16, dMA_mix_19, dMA_mix_20, dMA_mix_21, dMA_mix_24, dMA_mix_25, dMA_mix_26, dMA_mix_27, dMA_mix_28, dMA_mix_31, dMA_mix_32, dMA_mix_33, dMA_mix_36, dMA_mix_37, dMA_mix_38, dMA_mix_39, dMA_mix_40, dMA_mix_43, dMA_mix_44, dMA_mix_45, dMA_mix_46, ic_m1, dMA_mix_49, tg_49_m42, tz_49_m42, dMA_mix_52, hz]
      refine ⟨rfl, ?_⟩
      rw [hH, ← hb]
      rfl
    | succ k ih =>
      intro s H hk hH hv hb
      have hb2 : (dnL k).foldl mxS (mxS s (k + 1)) = T := hb
      have hz : ¬ nI (k + 1) < 1 := nI_nlt (b := 1) (by omega) (by omega)
      have k0 := r0 hH
      have hC := c_MA_draw l g cI A hA N M rA (k + 1 + 1) (by omega) s hv h
      rw [← hH] at hC
      refine gw_ev (T := gT0) 60 [7] gRt_m (gTO_0 _ _ _ ⟨Nat.le_refl _, Nat.le_refl _⟩) ?_
      simp only [vc_i, vc_l, vc_r, vc_n, Nat.succ_ne_self, gSd_s, gEd_s, gEd_0, gEd_B, gB_t, gB_f, gGo_c, gGo_n, gAll_n, gAll_c, gwK_s, gCT, gCF, gSet, gSet2, gKill, gTw, gTs, gLs, List.map_cons, List.map_nil, fv0, fv1, fv2, fv3, List.getElem?_cons_zero, List.getElem?_cons_succ, List.set_cons_zero, List.set_cons_succ, List.not_mem_nil, List.mem_cons, Option.toList_some, Option.toList_none, List.cons_append, List.nil_append, if_false, if_true, true_and, and_true, forall_const, true_implies, false_implies, or_false, false_or, not_true_eq_false, not_false_eq_true, and_false, false_and, implies_true, Nat.reduceAdd, Nat.reduceEqDiff, Nat.reduceLT, ↓reduceIte, cls_MA_mix, st_aload_n, st_getfield, st_iconst, st_isub, st_istore_n, st_iload_n, st_if_icmp, st_iadd, st_invokevirtual, st_iaload, st_iastore, st_iinc, st_goto, st_return_, (show mMA_mix.2.2.1 = 4 from rfl), gF_MA_48, tn_MA_84, (show gT0 88 = none from rfl), gF_MA_15, dMA_mix_0, dMA_mix_1, dMA_mix_4, ic_1, dMA_mix_5, dMA_mix_6, dMA_mix_7, dMA_mix_8, dMA_mix_9, tg_9_43, tz_9_43, dMA_mix_12, dMA_mix_13, dMA_mix_14, dMA_mix_15, dMA_mix_16, dMA_mix_19, dMA_mix_20, dMA_mix_21, dMA_mix_24, dMA_mix_25, dMA_mix_26, dMA_mix_27, dMA_mix_28, dMA_mix_31, dMA_mix_32, dMA_mix_33, dMA_mix_36, dMA_mix_37, dMA_mix_38, dMA_mix_39, dMA_mix_40, dMA_mix_43, dMA_mix_44, dMA_mix_45, dMA_mix_46, ic_m1, dMA_mix_49, tg_49_m42, tz_49_m42, dMA_mix_52, hz, nI_1]
      refine gw_cV (r := []) dMA_mix_16 (hC) rfl (k0) rfl wc_MA_draw wl_MA_84 wi_MA_draw ws_MA_draw wn_MA (by show _ ∧ _ ∧ _ = some 1; decide +kernel) (by decide) (gr_ge (by first | decide | omega)) (Nat.le_of_ble_eq_true rfl) ⟨Nat.le_refl _, Nat.le_refl _⟩ ?_
      obtain ⟨H1, hH1⟩ : ∃ H, H = hMA cI A N M rA (s.1, s.2.1, s.2.2.1, drN s.2.2.2) h := ⟨_, rfl⟩
      rw [← hH1]
      have j0 := r0 hH1
      have j2 := r2 hH1
      have hj : drN s.2.2.2 % (k + 1 + 1) < 320 := Nat.lt_of_lt_of_le (Nat.mod_lt _ (by omega)) (by omega)
      have cj : (nI (drN s.2.2.2 % (k + 1 + 1))).toNatClampNeg = drN s.2.2.2 % (k + 1 + 1) := nI_clamp (by omega)
      have vj : vp_in (nI (drN s.2.2.2 % (k + 1 + 1))) 320 := vp_in_nI hj (by omega)
      have ck : (nI (k + 1)).toNatClampNeg = k + 1 := nI_clamp (by omega)
      have vk : vp_in (nI (k + 1)) 320 := vp_in_nI (by omega) (by omega)
      dsimp only at j0 j2
      refine gw_ev (T := gT0) 60 [7] gRt_m (gTO_0 _ _ _ ⟨Nat.le_refl _, Nat.le_refl _⟩) ?_
      simp only [vc_i, vc_l, vc_r, vc_n, Nat.succ_ne_self, gSd_s, gEd_s, gEd_0, gEd_B, gB_t, gB_f, gGo_c, gGo_n, gAll_n, gAll_c, gwK_s, gCT, gCF, gSet, gSet2, gKill, gTw, gTs, gLs, List.map_cons, List.map_nil, fv0, fv1, fv2, fv3, List.getElem?_cons_zero, List.getElem?_cons_succ, List.set_cons_zero, List.set_cons_succ, List.not_mem_nil, List.mem_cons, Option.toList_some, Option.toList_none, List.cons_append, List.nil_append, if_false, if_true, true_and, and_true, forall_const, true_implies, false_implies, or_false, false_or, not_true_eq_false, not_false_eq_true, and_false, false_and, implies_true, Nat.reduceAdd, Nat.reduceEqDiff, Nat.reduceLT, ↓reduceIte, cls_MA_mix, st_aload_n, st_getfield, st_iconst, st_isub, st_istore_n, st_iload_n, st_if_icmp, st_iadd, st_invokevirtual, st_iaload, st_iastore, st_iinc, st_goto, st_return_, (show mMA_mix.2.2.1 = 4 from rfl), gF_MA_48, tn_MA_84, (show gT0 88 = none from rfl), gF_MA_15, dMA_mix_0, dMA_mix_1, dMA_mix_4, ic_1, dMA_mix_5, dMA_mix_6, dMA_mix_7, dMA_mix_8, dMA_mix_9, tg_9_43, tz_9_43, dMA_mix_12, dMA_mix_13, dMA_mix_14, dMA_mix_15, dMA_mix_16, dMA_mix_19, dMA_mix_20, dMA_mix_21, dMA_mix_24, dMA_mix_25, dMA_mix_26, dMA_mix_27, dMA_mix_28, dMA_mix_31, dMA_mix_32, dMA_mix_33, dMA_mix_36, dMA_mix_37, dMA_mix_38, dMA_mix_39, dMA_mix_40, dMA_mix_43, dMA_mix_44, dMA_mix_45, dMA_mix_46, ic_m1, dMA_mix_49, tg_49_m42, tz_49_m42, dMA_mix_52, j0, j2, fMA, ck, cj, gup_s, gup_n _ _ d20, gup_up, pk_m1]
      refine ⟨⟨hcI, vk⟩, ⟨hcI, vj⟩, ⟨hcI, vk⟩, ⟨hcI, vj⟩, ?_⟩
      refine gw_less (lv' := [some (.ref (A 0)), some (.int (nI k)), none, none]) (by simp [gLe]) (ih (mxS s (k + 1)) _ (by omega) ?_ (drN_lt _) hb2)
      rw [hH1]
      exact gh3_p1 hA
  refine gC_of (lv0 := [some (.ref (A 0)), none, none, none]) (by decide +kernel) (Nat.le_of_ble_eq_true rfl) (fun q hq => hq) ⟨rfl, rfl⟩ ?_
  have k0 := r0 hH0
  by_cases hc : s0.2.2.1 = 0
  · have e1 : nI s0.2.2.1 - 1 = -1 := by rw [hc]; decide
    have hz : (-1 : Int32) < 1 := by decide
    refine gw_ev (T := gT0) 60 [7] gRt_m (gTO_0 _ _ _ ⟨Nat.le_refl _, Nat.le_refl _⟩) ?_
    simp only [vc_i, vc_l, vc_r, vc_n, Nat.succ_ne_self, gSd_s, gEd_s, gEd_0, gEd_B, gB_t, gB_f, gGo_c, gGo_n, gAll_n, gAll_c, gwK_s, gCT, gCF, gSet, gSet2, gKill, gTw, gTs, gLs, List.map_cons, List.map_nil, fv0, fv1, fv2, fv3, List.getElem?_cons_zero, List.getElem?_cons_succ, List.set_cons_zero, List.set_cons_succ, List.not_mem_nil, List.mem_cons, Option.toList_some, Option.toList_none, List.cons_append, List.nil_append, if_false, if_true, true_and, and_true, forall_const, true_implies, false_implies, or_false, false_or, not_true_eq_false, not_false_eq_true, and_false, false_and, implies_true, Nat.reduceAdd, Nat.reduceEqDiff, Nat.reduceLT, ↓reduceIte, cls_MA_mix, st_aload_n, st_getfield, st_iconst, st_isub, st_istore_n, st_iload_n, st_if_icmp, st_iadd, st_invokevirtual, st_iaload, st_iastore, st_iinc, st_goto, st_return_, (show mMA_mix.2.2.1 = 4 from rfl), gF_MA_48, tn_MA_84, (show gT0 88 = none from rfl), gF_MA_15, dMA_mix_0, dMA_mix_1, dMA_mix_4, ic_1, dMA_mix_5, dMA_mix_6, dMA_mix_7, dMA_mix_8, dMA_mix_9, tg_9_43, tz_9_43, dMA_mix_12, dMA_mix_13, dMA_mix_14, dMA_mix_15, dMA_mix_16, dMA_mix_19, dMA_mix_20, dMA_mix_21, dMA_mix_24, dMA_mix_25, dMA_mix_26, dMA_mix_27, dMA_mix_28, dMA_mix_31, dMA_mix_32, dMA_mix_33, dMA_mix_36, dMA_mix_37, dMA_mix_38, dMA_mix_39, dMA_mix_40, dMA_mix_43, dMA_mix_44, dMA_mix_45, dMA_mix_46, ic_m1, dMA_mix_49, tg_49_m42, tz_49_m42, dMA_mix_52, k0, fMA, e1]
    refine gw_ev (T := gT0) 60 [7] gRt_m (gTO_0 _ _ _ ⟨Nat.le_refl _, Nat.le_refl _⟩) ?_
    simp only [vc_i, vc_l, vc_r, vc_n, Nat.succ_ne_self, gSd_s, gEd_s, gEd_0, gEd_B, gB_t, gB_f, gGo_c, gGo_n, gAll_n, gAll_c, gwK_s, gCT, gCF, gSet, gSet2, gKill, gTw, gTs, gLs, List.map_cons, List.map_nil, fv0, fv1, fv2, fv3, List.getElem?_cons_zero, List.getElem?_cons_succ, List.set_cons_zero, List.set_cons_succ, List.not_mem_nil, List.mem_cons, Option.toList_some, Option.toList_none, List.cons_append, List.nil_append, if_false, if_true, true_and, and_true, forall_const, true_implies, false_implies, or_false, false_or, not_true_eq_false, not_false_eq_true, and_false, false_and, implies_true, Nat.reduceAdd, Nat.reduceEqDiff, Nat.reduceLT, ↓reduceIte, cls_MA_mix, st_aload_n, st_getfield, st_iconst, st_isub, st_istore_n, st_iload_n, st_if_icmp, st_iadd, st_invokevirtual, st_iaload, st_iastore, st_iinc, st_goto, st_return_, (show mMA_mix.2.2.1 = 4 from rfl), gF_MA_48, tn_MA_84, (show gT0 88 = none from rfl), gF_MA_15, dMA_mix_0, dMA_mix_1, dMA_mix_4, ic_1, dMA_mix_5, dMA_mix_6, dMA_mix_7, dMA_mix_8, dMA_mix_9, tg_9_43, tz_9_43, dMA_mix_12, dMA_mix_13, dMA_mix_14, dMA_mix_15, dMA_mix_16, dMA_mix_19, dMA_mix_20, dMA_mix_21, dMA_mix_24, dMA_mix_25, dMA_mix_26, dMA_mix_27, dMA_mix_28, dMA_mix_31, dMA_mix_32, dMA_mix_33, dMA_mix_36, dMA_mix_37, dMA_mix_38, dMA_mix_39, dMA_mix_40, dMA_mix_43, dMA_mix_44, dMA_mix_45, dMA_mix_46, ic_m1, dMA_mix_49, tg_49_m42, tz_49_m42, dMA_mix_52, hz]
    refine ⟨rfl, ?_⟩
    rw [hH0, hT, mixF, hc]
    rfl
  · have e1 : nI s0.2.2.1 - 1 = nI (s0.2.2.1 - 1) := by
      have := nI_pred (s0.2.2.1 - 1)
      rwa [Nat.sub_add_cancel (by omega)] at this
    refine gw_ev (T := gT0) 60 [7] gRt_m (gTO_0 _ _ _ ⟨Nat.le_refl _, Nat.le_refl _⟩) ?_
    simp only [vc_i, vc_l, vc_r, vc_n, Nat.succ_ne_self, gSd_s, gEd_s, gEd_0, gEd_B, gB_t, gB_f, gGo_c, gGo_n, gAll_n, gAll_c, gwK_s, gCT, gCF, gSet, gSet2, gKill, gTw, gTs, gLs, List.map_cons, List.map_nil, fv0, fv1, fv2, fv3, List.getElem?_cons_zero, List.getElem?_cons_succ, List.set_cons_zero, List.set_cons_succ, List.not_mem_nil, List.mem_cons, Option.toList_some, Option.toList_none, List.cons_append, List.nil_append, if_false, if_true, true_and, and_true, forall_const, true_implies, false_implies, or_false, false_or, not_true_eq_false, not_false_eq_true, and_false, false_and, implies_true, Nat.reduceAdd, Nat.reduceEqDiff, Nat.reduceLT, ↓reduceIte, cls_MA_mix, st_aload_n, st_getfield, st_iconst, st_isub, st_istore_n, st_iload_n, st_if_icmp, st_iadd, st_invokevirtual, st_iaload, st_iastore, st_iinc, st_goto, st_return_, (show mMA_mix.2.2.1 = 4 from rfl), gF_MA_48, tn_MA_84, (show gT0 88 = none from rfl), gF_MA_15, dMA_mix_0, dMA_mix_1, dMA_mix_4, ic_1, dMA_mix_5, dMA_mix_6, dMA_mix_7, dMA_mix_8, dMA_mix_9, tg_9_43, tz_9_43, dMA_mix_12, dMA_mix_13, dMA_mix_14, dMA_mix_15, dMA_mix_16, dMA_mix_19, dMA_mix_20, dMA_mix_21, dMA_mix_24, dMA_mix_25, dMA_mix_26, dMA_mix_27, dMA_mix_28, dMA_mix_31, dMA_mix_32, dMA_mix_33, dMA_mix_36, dMA_mix_37, dMA_mix_38, dMA_mix_39, dMA_mix_40, dMA_mix_43, dMA_mix_44, dMA_mix_45, dMA_mix_46, ic_m1, dMA_mix_49, tg_49_m42, tz_49_m42, dMA_mix_52, k0, fMA, e1]
    exact loop (s0.2.2.1 - 1) s0 H0 (by omega) hH0 hv0 hT.symm
