-- the maker's thinning out
theorem okc_rm {f : Nat → Int32} {i j : Nat} (h : ∀ q, okc (f q)) : ∀ q, okc (rmF f i j q) := by
  intro q
  unfold rmF
  split
  · exact h _
  · exact h _
set_option maxRecDepth 100000 in
set_option maxHeartbeats 8000000 in
theorem c_MA_thinOut (l : Launch) (g : gG) (cI : ClassId) (hcI : (cI, FieldType.int) ∈ g.2.1) (A : Nat → Nat) (hA : apW A) (N K : Nat) (hN : 0 < N ∧ N ≤ 5) (hK : K ≤ 3) (B : Nat → Nat) (rA rC : Nat) (a b : Int32) (cnt v : Nat) (h0 : gH) (hm : h0 (B 0) = some (.inr (1, fMA a b B rA cnt v))) (n0 : Nat) (Q0 : Nat → Clue) (cs0 : Nat → Int32) (hq0 : codesQ N K n0 Q0 cs0) (hW0 : isWO cI N K A h0) (hL0 : isCL cI rA rC n0 cs0 h0) (xC : ∀ i, i < 7 → rC ≠ A i) (xA : ∀ i, i < 7 → rA ≠ A i) (xB : ∀ i, i < 7 → B 0 ≠ A i) (y1 : B 0 ≠ rA) (y2 : B 0 ≠ rC) (y3 : rA ≠ rC) : gC l g mMA_thinOut (gr (N * K + 4)) [.ref (B 0), .ref (A 0)] h0 (fun r h' => r = none ∧ isWO cI N K A h' ∧ isCL cI rA rC ((dzL n0).foldl (tpS N K) (n0, cs0)).1 ((dzL n0).foldl (tpS N K) (n0, cs0)).2 h' ∧ ∀ q, (∀ i, i < 7 → q ≠ A i) → q ≠ rA → q ≠ rC → h' q = h0 q) := by
  obtain ⟨T, hT⟩ : ∃ T, T = (dzL n0).foldl (tpS N K) (n0, cs0) := ⟨_, rfl⟩
  rw [← hT]
  have loop : ∀ (m n : Nat) (Q : Nat → Clue) (cs : Nat → Int32) (h : gH), m ≤ n → codesQ N K n Q cs → isWO cI N K A h → isCL cI rA rC n cs h → (∀ q, (∀ i, i < 7 → q ≠ A i) → q ≠ rA → q ≠ rC → h q = h0 q) → (dzL m).foldl (tpS N K) (n, cs) = T → gw l g mMA_thinOut (gr (N * K + 4)) h0 (gZm g h0 0 0 (fun r h' => r = none ∧ isWO cI N K A h' ∧ isCL cI rA rC T.1 T.2 h' ∧ ∀ q, (∀ i, i < 7 → q ≠ A i) → q ≠ rA → q ≠ rC → h' q = h0 q)) 0 0 10 [some (.ref (B 0)), some (.ref (A 0)), some (.int (nI m - 1))] [] h := by
    intro m
    induction m with
    | zero =>
      intro n Q cs h hmn hq hW hL hF hb
      have e1 : nI 0 - 1 = -1 := by decide
      have hz : (-1 : Int32) < 0 := by decide
      rw [e1]
      refine gw_ev (T := gT0) 60 [10] gRt_m (gTO_0 _ _ _ ⟨Nat.le_refl _, Nat.le_refl _⟩) ?_
      simp only [vc_i, vc_l, vc_r, vc_n, Nat.succ_ne_self, gSd_s, gEd_s, gEd_0, gEd_B, gB_t, gB_f, gGo_c, gGo_n, gAll_n, gAll_c, gwK_s, gCT, gCF, gSet, gSet2, gKill, gTw, gTs, gLs, List.map_cons, List.map_nil, fv0, fv1, fv2, fv3, List.getElem?_cons_zero, List.getElem?_cons_succ, List.set_cons_zero, List.set_cons_succ, List.not_mem_nil, List.mem_cons, Option.toList_some, Option.toList_none, List.cons_append, List.nil_append, if_false, if_true, true_and, and_true, forall_const, true_implies, false_implies, or_false, false_or, not_true_eq_false, not_false_eq_true, and_false, false_and, implies_true, Nat.reduceAdd, Nat.reduceEqDiff, Nat.reduceLT, ↓reduceIte, cls_MA_thinOut, st_aload_n, st_getfield, st_iconst, st_isub, st_istore_n, st_iload_n, st_ifCond, st_invokevirtual, st_iinc, st_goto, st_return_, (show mMA_thinOut.2.2.1 = 3 from rfl), gF_MA_21, gF_MA_45, tn_MA_55, (show gT0 84 = none from rfl), tn_MA_115, (show gT0 80 = none from rfl), dMA_thinOut_0, dMA_thinOut_1, dMA_thinOut_4, dMA_thinOut_7, ic_1, dMA_thinOut_8, dMA_thinOut_9, dMA_thinOut_10, dMA_thinOut_11, tg_11_29, tz_11_29, dMA_thinOut_14, dMA_thinOut_15, dMA_thinOut_16, dMA_thinOut_19, dMA_thinOut_20, dMA_thinOut_23, tg_23_11, tz_23_11, dMA_thinOut_26, dMA_thinOut_27, dMA_thinOut_30, dMA_thinOut_31, dMA_thinOut_34, ic_m1, dMA_thinOut_37, tg_37_m27, tz_37_m27, dMA_thinOut_40, hz]
      refine ⟨rfl, hW, ?_, hF⟩
      rw [← hb]
      exact hL
    | succ m ih =>
      intro n Q cs h hmn hq hW hL hF hb
      have e1 : nI (m + 1) - 1 = nI m := nI_pred m
      have hn30 : n ≤ 30 := hL.2.2.1
      have hz : ¬ nI m < 0 := nI_nlt (b := 0) (by omega) (by omega)
      have im : nI m + -1 = nI m - 1 := (Int32.sub_eq_add_neg _ _).symm
      have k0 : h (B 0) = some (.inr (1, fMA a b B rA cnt v)) := (hF (B 0) xB y1 y2).trans hm
      have w0 : ∃ fw, h (A 0) = some (.inr (4, fw)) := by
        obtain ⟨_, _, _, _, _, _, _, _, _, _, w0, _⟩ := hW
        exact ⟨_, w0⟩
      obtain ⟨fw, w0⟩ := w0
      have hC := c_WO_differ l g cI hcI A hA N K n rA rC hN hK cs (nI m) h hW hL xC
      rw [e1]
      refine gw_ev (T := gT0) 60 [10] gRt_m (gTO_0 _ _ _ ⟨Nat.le_refl _, Nat.le_refl _⟩) ?_
      simp only [vc_i, vc_l, vc_r, vc_n, Nat.succ_ne_self, gSd_s, gEd_s, gEd_0, gEd_B, gB_t, gB_f, gGo_c, gGo_n, gAll_n, gAll_c, gwK_s, gCT, gCF, gSet, gSet2, gKill, gTw, gTs, gLs, List.map_cons, List.map_nil, fv0, fv1, fv2, fv3, List.getElem?_cons_zero, List.getElem?_cons_succ, List.set_cons_zero, List.set_cons_succ, List.not_mem_nil, List.mem_cons, Option.toList_some, Option.toList_none, List.cons_append, List.nil_append, if_false, if_true, true_and, and_true, forall_const, true_implies, false_implies, or_false, false_or, not_true_eq_false, not_false_eq_true, and_false, false_and, implies_true, Nat.reduceAdd, Nat.reduceEqDiff, Nat.reduceLT, ↓reduceIte, cls_MA_thinOut, st_aload_n, st_getfield, st_iconst, st_isub, st_istore_n, st_iload_n, st_ifCond, st_invokevirtual, st_iinc, st_goto, st_return_, (show mMA_thinOut.2.2.1 = 3 from rfl), gF_MA_21, gF_MA_45, tn_MA_55, (show gT0 84 = none from rfl), tn_MA_115, (show gT0 80 = none from rfl), dMA_thinOut_0, dMA_thinOut_1, dMA_thinOut_4, dMA_thinOut_7, ic_1, dMA_thinOut_8, dMA_thinOut_9, dMA_thinOut_10, dMA_thinOut_11, tg_11_29, tz_11_29, dMA_thinOut_14, dMA_thinOut_15, dMA_thinOut_16, dMA_thinOut_19, dMA_thinOut_20, dMA_thinOut_23, tg_23_11, tz_23_11, dMA_thinOut_26, dMA_thinOut_27, dMA_thinOut_30, dMA_thinOut_31, dMA_thinOut_34, ic_m1, dMA_thinOut_37, tg_37_m27, tz_37_m27, dMA_thinOut_40, hz, k0, fMA]
      refine gw_cQ (r := []) dMA_thinOut_20 (hC) rfl (w0) rfl wc_WO_differ wl_MA_55 wi_WO_differ ws_WO_differ wn_WO (by show _ ∧ _ ∧ _ = some 2; decide +kernel) (by decide) (gr_ge (by first | decide | omega)) (Nat.le_of_ble_eq_true rfl) ⟨Nat.le_refl _, Nat.le_refl _⟩ ?_
      intro vv h1 hv
      obtain ⟨hW1, fr1, pa, pw, pt, hp, hpt, rfl⟩ := hv
      rw [difP_any hN hK hq (nI m) pa pw pt hpt]
      have hL1 : isCL cI rA rC n cs h1 := ⟨(fr1 rA xA).trans hL.1, (fr1 rC xC).trans hL.2.1, hL.2.2⟩
      have k1 : h1 (B 0) = some (.inr (1, fMA a b B rA cnt v)) := (fr1 (B 0) xB).trans k0
      have hF1 : ∀ q, (∀ i, i < 7 → q ≠ A i) → q ≠ rA → q ≠ rC → h1 q = h0 q := fun q z1 z2 z3 => (fr1 q z1).trans (hF q z1 z2 z3)
      by_cases c : difP N K n cs (nI m) = false
      · rw [c]
        have hb2 : (dzL m).foldl (tpS N K) (n - 1, rmF cs m (n - 1)) = T := by
          have e2 : tpS N K (n, cs) m = (n - 1, rmF cs m (n - 1)) := if_pos c
          rw [← hb, ← e2]
          rfl
        have hR := c_CL_removeAt l g cI hcI rA rC n m hn30 (by omega) cs h1 hL1.1 hL1.2.1
        refine gw_ev (T := gT0) 60 [10] gRt_m (gTO_0 _ _ _ ⟨Nat.le_refl _, Nat.le_refl _⟩) ?_
        simp only [vc_i, vc_l, vc_r, vc_n, Nat.succ_ne_self, gSd_s, gEd_s, gEd_0, gEd_B, gB_t, gB_f, gGo_c, gGo_n, gAll_n, gAll_c, gwK_s, gCT, gCF, gSet, gSet2, gKill, gTw, gTs, gLs, List.map_cons, List.map_nil, fv0, fv1, fv2, fv3, List.getElem?_cons_zero, List.getElem?_cons_succ, List.set_cons_zero, List.set_cons_succ, List.not_mem_nil, List.mem_cons, Option.toList_some, Option.toList_none, List.cons_append, List.nil_append, if_false, if_true, true_and, and_true, forall_const, true_implies, false_implies, or_false, false_or, not_true_eq_false, not_false_eq_true, and_false, false_and, implies_true, Nat.reduceAdd, Nat.reduceEqDiff, Nat.reduceLT, ↓reduceIte, cls_MA_thinOut, st_aload_n, st_getfield, st_iconst, st_isub, st_istore_n, st_iload_n, st_ifCond, st_invokevirtual, st_iinc, st_goto, st_return_, (show mMA_thinOut.2.2.1 = 3 from rfl), gF_MA_21, gF_MA_45, tn_MA_55, (show gT0 84 = none from rfl), tn_MA_115, (show gT0 80 = none from rfl), dMA_thinOut_0, dMA_thinOut_1, dMA_thinOut_4, dMA_thinOut_7, ic_1, dMA_thinOut_8, dMA_thinOut_9, dMA_thinOut_10, dMA_thinOut_11, tg_11_29, tz_11_29, dMA_thinOut_14, dMA_thinOut_15, dMA_thinOut_16, dMA_thinOut_19, dMA_thinOut_20, dMA_thinOut_23, tg_23_11, tz_23_11, dMA_thinOut_26, dMA_thinOut_27, dMA_thinOut_30, dMA_thinOut_31, dMA_thinOut_34, ic_m1, dMA_thinOut_37, tg_37_m27, tz_37_m27, dMA_thinOut_40, k1, fMA, bI_f]
        refine gw_cV (r := []) dMA_thinOut_31 (hR) rfl (hL1.1) rfl wc_CL_removeAt wl_MA_115 wi_CL_removeAt ws_CL_removeAt wn_CL (by show _ ∧ _ ∧ _ = some 1; decide +kernel) (by decide) (gr_ge (by first | decide | omega)) (Nat.le_of_ble_eq_true rfl) ⟨Nat.le_refl _, Nat.le_refl _⟩ ?_
        refine gw_ev (T := gT0) 60 [10] gRt_m (gTO_0 _ _ _ ⟨Nat.le_refl _, Nat.le_refl _⟩) ?_
        simp only [vc_i, vc_l, vc_r, vc_n, Nat.succ_ne_self, gSd_s, gEd_s, gEd_0, gEd_B, gB_t, gB_f, gGo_c, gGo_n, gAll_n, gAll_c, gwK_s, gCT, gCF, gSet, gSet2, gKill, gTw, gTs, gLs, List.map_cons, List.map_nil, fv0, fv1, fv2, fv3, List.getElem?_cons_zero, List.getElem?_cons_succ, List.set_cons_zero, List.set_cons_succ, List.not_mem_nil, List.mem_cons, Option.toList_some, Option.toList_none, List.cons_append, List.nil_append, if_false, if_true, true_and, and_true, forall_const, true_implies, false_implies, or_false, false_or, not_true_eq_false, not_false_eq_true, and_false, false_and, implies_true, Nat.reduceAdd, Nat.reduceEqDiff, Nat.reduceLT, ↓reduceIte, cls_MA_thinOut, st_aload_n, st_getfield, st_iconst, st_isub, st_istore_n, st_iload_n, st_ifCond, st_invokevirtual, st_iinc, st_goto, st_return_, (show mMA_thinOut.2.2.1 = 3 from rfl), gF_MA_21, gF_MA_45, tn_MA_55, (show gT0 84 = none from rfl), tn_MA_115, (show gT0 80 = none from rfl), dMA_thinOut_0, dMA_thinOut_1, dMA_thinOut_4, dMA_thinOut_7, ic_1, dMA_thinOut_8, dMA_thinOut_9, dMA_thinOut_10, dMA_thinOut_11, tg_11_29, tz_11_29, dMA_thinOut_14, dMA_thinOut_15, dMA_thinOut_16, dMA_thinOut_19, dMA_thinOut_20, dMA_thinOut_23, tg_23_11, tz_23_11, dMA_thinOut_26, dMA_thinOut_27, dMA_thinOut_30, dMA_thinOut_31, dMA_thinOut_34, ic_m1, dMA_thinOut_37, tg_37_m27, tz_37_m27, dMA_thinOut_40, im]
        refine ih (n - 1) (rmQ Q m) _ _ (by omega) (codes_rem hq (by omega)) ?_ ⟨gup_s _ _ _, ?_, by omega, okc_rm hL.2.2.2⟩ ?_ hb2
        · obtain ⟨lim0, mp0, wat0, c0, pa2, pw2, pt2, qv0, dv0, sv0, w0, w1, w2, w3, w4, w5, w6, hr⟩ := hW1
          refine ⟨lim0, mp0, wat0, c0, pa2, pw2, pt2, qv0, dv0, sv0, ?_, ?_, ?_, ?_, ?_, ?_, ?_, hr⟩
          · rw [gup_n _ _ (xA 0 (by omega)).symm, gup_n _ _ (xC 0 (by omega)).symm]; exact w0
          · rw [gup_n _ _ (xA 1 (by omega)).symm, gup_n _ _ (xC 1 (by omega)).symm]; exact w1
          · rw [gup_n _ _ (xA 2 (by omega)).symm, gup_n _ _ (xC 2 (by omega)).symm]; exact w2
          · rw [gup_n _ _ (xA 3 (by omega)).symm, gup_n _ _ (xC 3 (by omega)).symm]; exact w3
          · rw [gup_n _ _ (xA 4 (by omega)).symm, gup_n _ _ (xC 4 (by omega)).symm]; exact w4
          · rw [gup_n _ _ (xA 5 (by omega)).symm, gup_n _ _ (xC 5 (by omega)).symm]; exact w5
          · rw [gup_n _ _ (xA 6 (by omega)).symm, gup_n _ _ (xC 6 (by omega)).symm]; exact w6
        · rw [gup_n _ _ y3.symm]
          exact gup_s _ _ _
        · intro q z1 z2 z3
          rw [gup_n _ _ z2, gup_n _ _ z3]
          exact hF1 q z1 z2 z3
      · have c2 : difP N K n cs (nI m) = true := by
          cases hd : difP N K n cs (nI m)
          · exact absurd hd c
          · rfl
        rw [c2]
        have hb2 : (dzL m).foldl (tpS N K) (n, cs) = T := by
          have e2 : tpS N K (n, cs) m = (n, cs) := if_neg c
          rw [← hb]
          show _ = (dzL m).foldl (tpS N K) (tpS N K (n, cs) m)
          rw [e2]
        refine gw_ev (T := gT0) 60 [10] gRt_m (gTO_0 _ _ _ ⟨Nat.le_refl _, Nat.le_refl _⟩) ?_
        simp only [vc_i, vc_l, vc_r, vc_n, Nat.succ_ne_self, gSd_s, gEd_s, gEd_0, gEd_B, gB_t, gB_f, gGo_c, gGo_n, gAll_n, gAll_c, gwK_s, gCT, gCF, gSet, gSet2, gKill, gTw, gTs, gLs, List.map_cons, List.map_nil, fv0, fv1, fv2, fv3, List.getElem?_cons_zero, List.getElem?_cons_succ, List.set_cons_zero, List.set_cons_succ, List.not_mem_nil, List.mem_cons, Option.toList_some, Option.toList_none, List.cons_append, List.nil_append, if_false, if_true, true_and, and_true, forall_const, true_implies, false_implies, or_false, false_or, not_true_eq_false, not_false_eq_true, and_false, false_and, implies_true, Nat.reduceAdd, Nat.reduceEqDiff, Nat.reduceLT, ↓reduceIte, cls_MA_thinOut, st_aload_n, st_getfield, st_iconst, st_isub, st_istore_n, st_iload_n, st_ifCond, st_invokevirtual, st_iinc, st_goto, st_return_, (show mMA_thinOut.2.2.1 = 3 from rfl), gF_MA_21, gF_MA_45, tn_MA_55, (show gT0 84 = none from rfl), tn_MA_115, (show gT0 80 = none from rfl), dMA_thinOut_0, dMA_thinOut_1, dMA_thinOut_4, dMA_thinOut_7, ic_1, dMA_thinOut_8, dMA_thinOut_9, dMA_thinOut_10, dMA_thinOut_11, tg_11_29, tz_11_29, dMA_thinOut_14, dMA_thinOut_15, dMA_thinOut_16, dMA_thinOut_19, dMA_thinOut_20, dMA_thinOut_23, tg_23_11, tz_23_11, dMA_thinOut_26, dMA_thinOut_27, dMA_thinOut_30, dMA_thinOut_31, dMA_thinOut_34, ic_m1, dMA_thinOut_37, tg_37_m27, tz_37_m27, dMA_thinOut_40, bI_t, oz, im]
        exact ih n Q cs h1 (by omega) hq hW1 hL1 hF1 hb2
  refine gC_of (lv0 := [some (.ref (B 0)), some (.ref (A 0)), none]) (by decide +kernel) (Nat.le_of_ble_eq_true rfl) (fun q hq => hq) ⟨rfl, rfl⟩ ?_
  have r0 := hL0.1
  refine gw_ev (T := gT0) 60 [10] gRt_m (gTO_0 _ _ _ ⟨Nat.le_refl _, Nat.le_refl _⟩) ?_
  simp only [vc_i, vc_l, vc_r, vc_n, Nat.succ_ne_self, gSd_s, gEd_s, gEd_0, gEd_B, gB_t, gB_f, gGo_c, gGo_n, gAll_n, gAll_c, gwK_s, gCT, gCF, gSet, gSet2, gKill, gTw, gTs, gLs, List.map_cons, List.map_nil, fv0, fv1, fv2, fv3, List.getElem?_cons_zero, List.getElem?_cons_succ, List.set_cons_zero, List.set_cons_succ, List.not_mem_nil, List.mem_cons, Option.toList_some, Option.toList_none, List.cons_append, List.nil_append, if_false, if_true, true_and, and_true, forall_const, true_implies, false_implies, or_false, false_or, not_true_eq_false, not_false_eq_true, and_false, false_and, implies_true, Nat.reduceAdd, Nat.reduceEqDiff, Nat.reduceLT, ↓reduceIte, cls_MA_thinOut, st_aload_n, st_getfield, st_iconst, st_isub, st_istore_n, st_iload_n, st_ifCond, st_invokevirtual, st_iinc, st_goto, st_return_, (show mMA_thinOut.2.2.1 = 3 from rfl), gF_MA_21, gF_MA_45, tn_MA_55, (show gT0 84 = none from rfl), tn_MA_115, (show gT0 80 = none from rfl), dMA_thinOut_0, dMA_thinOut_1, dMA_thinOut_4, dMA_thinOut_7, ic_1, dMA_thinOut_8, dMA_thinOut_9, dMA_thinOut_10, dMA_thinOut_11, tg_11_29, tz_11_29, dMA_thinOut_14, dMA_thinOut_15, dMA_thinOut_16, dMA_thinOut_19, dMA_thinOut_20, dMA_thinOut_23, tg_23_11, tz_23_11, dMA_thinOut_26, dMA_thinOut_27, dMA_thinOut_30, dMA_thinOut_31, dMA_thinOut_34, ic_m1, dMA_thinOut_37, tg_37_m27, tz_37_m27, dMA_thinOut_40, hm, fMA, r0]
  exact loop n0 n0 Q0 cs0 h0 (Nat.le_refl _) hq0 hW0 hL0 (fun _ _ _ _ => rfl) hT.symm
