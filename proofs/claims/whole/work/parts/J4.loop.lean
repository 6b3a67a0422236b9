-- the law's loop
theorem lw_gt {L j : Nat} (hL : L ≤ 3586) (hj : j ≤ 4000) : (Int32.ofNat L - 7 < nI j) = (L < j + 7) := by
  apply propext
  by_cases c : 7 ≤ L
  · obtain ⟨q, rfl⟩ : ∃ q, L = q + 7 := ⟨L - 7, by omega⟩
    have e : Int32.ofNat (q + 7) - 7 = nI q := by
      have : Int32.ofNat (q + 7) = nI q + nI 7 := (nI_add q 7).symm
      rw [this]
      exact Int32.add_sub_cancel (nI q) (nI 7)
    rw [e]
    rw [nI_ltI (by omega) (by omega)]
    omega
  · have h6 : L = 0 ∨ L = 1 ∨ L = 2 ∨ L = 3 ∨ L = 4 ∨ L = 5 ∨ L = 6 := by omega
    have h0 : Int32.ofNat L - 7 < 0 := by
      rcases h6 with rfl | rfl | rfl | rfl | rfl | rfl | rfl <;> decide
    exact ⟨fun _ => by omega, fun _ => Int32.lt_of_lt_of_le h0 (nI_pos' (by omega))⟩
theorem lw_31 (x : Int32) : ∃ t : Nat, t < 32 ∧ x &&& 31 = nI t := by
  refine ⟨(x &&& 31).toBitVec.toNat, ?_, Int32.toBitVec_inj.mp (by simp [nI])⟩
  have : (x &&& 31).toBitVec = x.toBitVec &&& 31#32 := rfl
  rw [this, BitVec.toNat_and]
  exact Nat.lt_of_le_of_lt Nat.and_le_right (by decide)
set_option maxRecDepth 100000 in
set_option maxHeartbeats 4000000 in
theorem lw_case {l : Launch} {g : gG} {cB cL cI : ClassId} {N K D : Nat} {wd : Nat → Int64} {od : Nat → Int32} {M W : Nat → Nat} {u : Nat} (hG : lwG l g cB cL cI N K D wd od M W u) {s : RMS} {a : RA} {n : RN} {i : RI} {f : Nat → Int64} {h : gH} (hI : linv cB cL cI N K D wd od M W u s a n i f h) (hr : rel N K D od s a n i) {j : Nat} (hj : j + 7 ≤ gsL g) {h0 : gH} {Z : gZ} {k m : Nat} (hk : k + 1 ≤ room_1.cells) (hm : m + 6 ≤ room_1.slots) (hK : lwK l g cB cL cI N K D wd od M W u j h0 Z k m) : gw l g mLW_law room_1 h0 (gZl h0 Z) k m 43 (lwV g M W u j) [] h := by
  obtain ⟨htl, ⟨hcB, hcL, hcI⟩, ⟨hNK, hD, ho, hwd⟩, hA, ⟨gW, gF, gS⟩, hL, nSW, nFW⟩ := id hG
  have hs := linv_none hA hI gS
  have gc := lw_gt (L := gsL g) (j := j) hL (by omega)
  have gn : (gsL g < j + 7) = False := eq_false (by omega)
  have c0 : (nI j).toNatClampNeg = j := nI_clamp (by omega)
  have v0 : vp_in (nI j) (gsL g) = True := eq_true (vp_in_nI (by omega) (by omega))
  obtain ⟨t, ht, et⟩ := lw_31 (gsx g j)
  have tt : (nI t).toInt = (t : Int) := nI_toInt (by omega)
  unfold lwV
  refine gw_ev (T := gT0) 60 [148, 266, 302, 339, 395, 420, 483, 496, 533, 558, 571, 639, 708, 733, 758, 815, 859, 872, 897] gRt_f (gTO_0 _ _ _ ⟨by first | exact hk | exact Nat.le_of_succ_le hk, by first | exact hm | exact Nat.le_trans (Nat.le_add_right m 6) hm⟩) ?_
  simp only [vc_i, vc_l, vc_r, vc_n, Nat.succ_ne_self, gSd_s, gEd_s, gEd_0, gEd_B, gB_t, gB_f, gGo_c, gGo_n, gAll_n, gAll_c, gwK_s, gCT, gCF, gSet, gSet2, gKill, gTw, gTs, gLs, List.map_cons, List.map_nil, fv0, fv1, fv2, fv3, List.getElem?_cons_zero, List.getElem?_cons_succ, List.set_cons_zero, List.set_cons_succ, List.not_mem_nil, List.mem_cons, Option.toList_some, Option.toList_none, List.cons_append, List.nil_append, if_false, if_true, true_and, and_true, forall_const, true_implies, false_implies, or_false, false_or, not_true_eq_false, not_false_eq_true, and_false, false_and, implies_true, Nat.reduceAdd, Nat.reduceEqDiff, Nat.reduceLT, ↓reduceIte, cls_LW_law, st_iload, st_aload_n, st_arraylength, st_bipush, st_isub, st_if_icmp, st_iaload, st_iand, st_tableswitch, st_iinc, st_goto, st_iconst, st_ireturn, (show mLW_law.2.2.1 = 7 from rfl), dLW_law_43, dLW_law_45, dLW_law_46, dLW_law_47, bi_7, dLW_law_49, dLW_law_50, tg_50_853, tz_50_853, dLW_law_53, dLW_law_54, dLW_law_56, dLW_law_57, bi_31, dLW_law_59, dLW_law_60, tg_60_837, tz_60_837, tg_60_88, tz_60_88, tg_60_206, tz_60_206, tg_60_242, tz_60_242, tg_60_279, tz_60_279, tg_60_335, tz_60_335, tg_60_360, tz_60_360, tg_60_423, tz_60_423, tg_60_436, tz_60_436, tg_60_473, tz_60_473, tg_60_498, tz_60_498, tg_60_511, tz_60_511, tg_60_579, tz_60_579, tg_60_648, tz_60_648, tg_60_673, tz_60_673, tg_60_698, tz_60_698, tg_60_755, tz_60_755, tg_60_799, tz_60_799, tg_60_812, tz_60_812, dLW_law_897, ic_7, dLW_law_900, tg_900_m857, tz_900_m857, dLW_law_903, ic_1, dLW_law_904, hs, nSW, gc, gn, c0, v0, et, tt]
  exact ⟨by decide, fun _ => gw_widen (Nat.le_succ k) (Nat.le_add_right m 6) (hK s a n i f h hI hr), fun _ => cs_clue hG hI hr hj hk hm hK, fun _ => cs_drop hG hI hr hj hk hm hK, fun _ => cs_clueAt hG hI hr hj hk hm hK, fun _ => cs_count hG hI hr hj hk hm hK, fun _ => cs_answer hG hI hr hj hk hm hK, fun _ => cs_needed hG hI hr hj hk hm hK, fun _ => cs_prove hG hI hr hj hk hm hK, fun _ => cs_step hG hI hr hj hk hm hK, fun _ => cs_may hG hI hr hj hk hm hK, fun _ => cs_rating hG hI hr hj hk hm hK, fun _ => cs_make hG hI hr hj hk hm hK, fun _ => cs_name hG hI hr hj hk hm hK, fun _ => cs_print hG hI hr hj hk hm hK, fun _ => cs_shown hG hI hr hj hk hm hK, fun _ => cs_type hG hI hr hj hk hm hK, fun _ => cs_read hG hI hr hj hk hm hK, fun _ => cs_fault hG hI hr hj hk hm hK, fun _ => cs_about hG hI hr hj hk hm hK⟩
set_option maxRecDepth 100000 in
set_option maxHeartbeats 4000000 in
theorem lw_loop {l : Launch} {g : gG} {cB cL cI : ClassId} {N K D : Nat} {wd : Nat → Int64} {od : Nat → Int32} {M W : Nat → Nat} {u : Nat} (hG : lwG l g cB cL cI N K D wd od M W u) {h0 : gH} {Z : gZ} (hE : ∀ (lv : gV) (h : gH), gw l g mLW_law room_1 h0 (gZl h0 Z) 601024 7293000 903 lv [] h) : ∀ (c j k m : Nat) (s : RMS) (a : RA) (n : RN) (i : RI) (f : Nat → Int64) (h : gH), linv cB cL cI N K D wd od M W u s a n i f h → rel N K D od s a n i → gsL g < j + 7 + 7 * c → j ≤ 3600 → k + c ≤ room_1.cells → m + 6 * c ≤ room_1.slots → gw l g mLW_law room_1 h0 (gZl h0 Z) k m 43 (lwV g M W u j) [] h := by
  have hA := hG.2.2.2.1
  have gS := hG.2.2.2.2.1.2.2
  have hL := hG.2.2.2.2.2.1
  have nSW := hG.2.2.2.2.2.2.1
  have leave : ∀ (j k m : Nat) (s : RMS) (a : RA) (n : RN) (i : RI) (f : Nat → Int64) (h : gH), linv cB cL cI N K D wd od M W u s a n i f h → gsL g < j + 7 → j ≤ 3600 → k + 1 ≤ room_1.cells + 1 → m + 6 ≤ room_1.slots + 6 → gw l g mLW_law room_1 h0 (gZl h0 Z) k m 43 (lwV g M W u j) [] h := by
    intro j k m s a n i f h hI hj hj2 hk9 hm9
    have hk : k ≤ room_1.cells := Nat.le_of_succ_le_succ hk9
    have hm : m ≤ room_1.slots := by omega
    have hs := linv_none hA hI gS
    have gc := lw_gt (L := gsL g) (j := j) hL (by omega)
    have gn : (gsL g < j + 7) = True := eq_true hj
    unfold lwV
    refine gw_ev (T := gT0) 60 [903] gRt_f (gTO_0 _ _ _ ⟨by first | exact hk | exact Nat.le_of_succ_le hk, by first | exact hm | exact Nat.le_trans (Nat.le_add_right m 6) hm⟩) ?_
    simp only [vc_i, vc_l, vc_r, vc_n, Nat.succ_ne_self, gSd_s, gEd_s, gEd_0, gEd_B, gB_t, gB_f, gGo_c, gGo_n, gAll_n, gAll_c, gwK_s, gCT, gCF, gSet, gSet2, gKill, gTw, gTs, gLs, List.map_cons, List.map_nil, fv0, fv1, fv2, fv3, List.getElem?_cons_zero, List.getElem?_cons_succ, List.set_cons_zero, List.set_cons_succ, List.not_mem_nil, List.mem_cons, Option.toList_some, Option.toList_none, List.cons_append, List.nil_append, if_false, if_true, true_and, and_true, forall_const, true_implies, false_implies, or_false, false_or, not_true_eq_false, not_false_eq_true, and_false, false_and, implies_true, Nat.reduceAdd, Nat.reduceEqDiff, Nat.reduceLT, ↓reduceIte, cls_LW_law, st_iload, st_aload_n, st_arraylength, st_bipush, st_isub, st_if_icmp, st_iaload, st_iand, st_iinc, st_goto, st_iconst, st_ireturn, (show mLW_law.2.2.1 = 7 from rfl), dLW_law_43, dLW_law_45, dLW_law_46, dLW_law_47, bi_7, dLW_law_49, dLW_law_50, tg_50_853, tz_50_853, dLW_law_53, dLW_law_54, dLW_law_56, dLW_law_57, bi_31, dLW_law_59, dLW_law_897, ic_7, dLW_law_900, tg_900_m857, tz_900_m857, dLW_law_903, ic_1, dLW_law_904, hs, nSW, gc, gn]
    exact gw_widen hk hm (hE _ h)
  intro c
  induction c with
  | zero =>
    intro j k m s a n i f h hI hr hj hj2 hk hm
    exact leave j k m s a n i f h hI (by omega) hj2 (by omega) (by omega)
  | succ c ih =>
    intro j k m s a n i f h hI hr hj hj2 hk9 hm9
    have hk : k + 1 ≤ room_1.cells := by omega
    have hm : m + 6 ≤ room_1.slots := by omega
    by_cases e : gsL g < j + 7
    · exact leave j k m s a n i f h hI e hj2 (by omega) (by omega)
    · refine lw_case hG hI hr (by omega) hk hm (fun s a n i f h hI hr => ?_)
      have ej : nI j + 7 = nI (j + 7) := nI_add j 7
      unfold lwV
      refine gw_ev (T := gT0) 60 [43] gRt_f (gTO_0 _ _ _ ⟨by first | exact hk | exact Nat.le_of_succ_le hk, by first | exact hm | exact Nat.le_trans (Nat.le_add_right m 6) hm⟩) ?_
      simp only [vc_i, vc_l, vc_r, vc_n, Nat.succ_ne_self, gSd_s, gEd_s, gEd_0, gEd_B, gB_t, gB_f, gGo_c, gGo_n, gAll_n, gAll_c, gwK_s, gCT, gCF, gSet, gSet2, gKill, gTw, gTs, gLs, List.map_cons, List.map_nil, fv0, fv1, fv2, fv3, List.getElem?_cons_zero, List.getElem?_cons_succ, List.set_cons_zero, List.set_cons_succ, List.not_mem_nil, List.mem_cons, Option.toList_some, Option.toList_none, List.cons_append, List.nil_append, if_false, if_true, true_and, and_true, forall_const, true_implies, false_implies, or_false, false_or, not_true_eq_false, not_false_eq_true, and_false, false_and, implies_true, Nat.reduceAdd, Nat.reduceEqDiff, Nat.reduceLT, ↓reduceIte, cls_LW_law, st_iinc, st_goto, st_iconst, st_ireturn, (show mLW_law.2.2.1 = 7 from rfl), dLW_law_897, ic_7, dLW_law_900, tg_900_m857, tz_900_m857, dLW_law_903, ic_1, dLW_law_904, ej]
      exact ih (j + 7) (k + 1) (m + 6) s a n i f h hI hr (by omega) (by omega) (by omega) (by omega)
