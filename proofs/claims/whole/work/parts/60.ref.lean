-- needs 10 11 12 13 14 15 16 17 18 18d 21 30 31 40 50 53
def idxF (x : Int32) : Int32 := 5 * (x / 10 - 1) + (x - x / 10 * 10)
set_option maxRecDepth 100000 in
theorem c_RF_index (l : Launch) (g : gG) (x : Int32) (h : gH) : gC l g mRF_index (gr 0) [.int x] h (fun r h' => r = some (.int (idxF x)) ∧ h' = h) := by
  have z10 : ¬ (10 : Int32) = 0 := by decide
  refine gC_of (lv0 := [some (.int x)]) (by decide +kernel) (Nat.le_of_ble_eq_true rfl) (fun q hq => hq) ⟨rfl, rfl⟩ ?_
  refine gw_ev (T := gT0) 60 [] gRt_m (gTO_0 _ _ _ ⟨Nat.le_refl _, Nat.le_refl _⟩) ?_
  simp only [vc_i, vc_l, vc_r, vc_n, Nat.succ_ne_self, gSd_s, gEd_s, gEd_0, gEd_B, gB_t, gB_f, gGo_c, gGo_n, gAll_n, gAll_c, gwK_s, gCT, gCF, gSet, gSet2, gKill, gTw, gTs, gLs, List.map_cons, List.map_nil, fv0, fv1, fv2, fv3, List.getElem?_cons_zero, List.getElem?_cons_succ, List.set_cons_zero, List.set_cons_succ, List.not_mem_nil, List.mem_cons, Option.toList_some, Option.toList_none, List.cons_append, List.nil_append, if_false, if_true, true_and, and_true, forall_const, true_implies, false_implies, or_false, false_or, not_true_eq_false, not_false_eq_true, and_false, false_and, implies_true, Nat.reduceAdd, Nat.reduceEqDiff, Nat.reduceLT, ↓reduceIte, cls_RF_index, st_iconst, st_iload_n, st_bipush, st_idiv, st_isub, st_imul, st_irem, st_iadd, st_ireturn, (show mRF_index.2.2.1 = 1 from rfl), dRF_index_0, ic_5, dRF_index_1, dRF_index_2, bi_10, dRF_index_4, dRF_index_5, ic_1, dRF_index_6, dRF_index_7, dRF_index_8, dRF_index_9, dRF_index_11, dRF_index_12, dRF_index_13, z10]
  exact ⟨rfl, rfl⟩
def manyN (x : Int32) : Int32 := if x = 3 then 2 else 1
set_option maxRecDepth 100000 in
theorem c_RF_many (l : Launch) (g : gG) (x : Int32) (h : gH) : gC l g mRF_many (gr 0) [.int x] h (fun r h' => r = some (.int (manyN x)) ∧ h' = h) := by
  refine gC_of (lv0 := [some (.int x)]) (by decide +kernel) (Nat.le_of_ble_eq_true rfl) (fun q hq => hq) ⟨rfl, rfl⟩ ?_
  by_cases h1 : x = 3
  · have e1 : (x = 3) = True := eq_true h1
    refine gw_ev (T := gT0) 60 [] gRt_m (gTO_0 _ _ _ ⟨Nat.le_refl _, Nat.le_refl _⟩) ?_
    simp only [vc_i, vc_l, vc_r, vc_n, Nat.succ_ne_self, gSd_s, gEd_s, gEd_0, gEd_B, gB_t, gB_f, gGo_c, gGo_n, gAll_n, gAll_c, gwK_s, gCT, gCF, gSet, gSet2, gKill, gTw, gTs, gLs, List.map_cons, List.map_nil, fv0, fv1, fv2, fv3, List.getElem?_cons_zero, List.getElem?_cons_succ, List.set_cons_zero, List.set_cons_succ, List.not_mem_nil, List.mem_cons, Option.toList_some, Option.toList_none, List.cons_append, List.nil_append, if_false, if_true, true_and, and_true, forall_const, true_implies, false_implies, or_false, false_or, not_true_eq_false, not_false_eq_true, and_false, false_and, implies_true, Nat.reduceAdd, Nat.reduceEqDiff, Nat.reduceLT, ↓reduceIte, cls_RF_many, st_iload_n, st_iconst, st_if_icmp, st_goto, st_ireturn, (show mRF_many.2.2.1 = 1 from rfl), dRF_many_0, dRF_many_1, ic_3, dRF_many_2, tg_2_7, tz_2_7, dRF_many_5, ic_2, dRF_many_6, tg_6_4, tz_6_4, dRF_many_9, ic_1, dRF_many_10, e1]
    exact ⟨rfl, by rw [manyN, if_pos h1]⟩
  · refine gw_ev (T := gT0) 60 [] gRt_m (gTO_0 _ _ _ ⟨Nat.le_refl _, Nat.le_refl _⟩) ?_
    simp only [vc_i, vc_l, vc_r, vc_n, Nat.succ_ne_self, gSd_s, gEd_s, gEd_0, gEd_B, gB_t, gB_f, gGo_c, gGo_n, gAll_n, gAll_c, gwK_s, gCT, gCF, gSet, gSet2, gKill, gTw, gTs, gLs, List.map_cons, List.map_nil, fv0, fv1, fv2, fv3, List.getElem?_cons_zero, List.getElem?_cons_succ, List.set_cons_zero, List.set_cons_succ, List.not_mem_nil, List.mem_cons, Option.toList_some, Option.toList_none, List.cons_append, List.nil_append, if_false, if_true, true_and, and_true, forall_const, true_implies, false_implies, or_false, false_or, not_true_eq_false, not_false_eq_true, and_false, false_and, implies_true, Nat.reduceAdd, Nat.reduceEqDiff, Nat.reduceLT, ↓reduceIte, cls_RF_many, st_iload_n, st_iconst, st_if_icmp, st_goto, st_ireturn, (show mRF_many.2.2.1 = 1 from rfl), dRF_many_0, dRF_many_1, ic_3, dRF_many_2, tg_2_7, tz_2_7, dRF_many_5, ic_2, dRF_many_6, tg_6_4, tz_6_4, dRF_many_9, ic_1, dRF_many_10, h1]
    exact ⟨rfl, by rw [manyN, if_neg h1]⟩
def sizeS (x c : Int32) (p : Nat) : Int32 := c + ((x >>> (nI p &&& 31)) &&& 1)
def sizeF (x : Int32) : Int32 := (segF id 5 0).foldl (sizeS x) 0
set_option maxRecDepth 100000 in
theorem c_RF_size (l : Launch) (g : gG) (x : Int32) (h : gH) : gC l g mRF_size (gr 0) [.int x] h (fun r h' => r = some (.int (sizeF x)) ∧ h' = h) := by
  obtain ⟨T, hT⟩ : ∃ T, T = sizeF x := ⟨_, rfl⟩
  rw [← hT]
  have loop : ∀ (m p : Nat) (c : Int32), p + m = 5 → (segF id m p).foldl (sizeS x) c = T → gw l g mRF_size (gr 0) h (gZm g h 0 0 (fun r h' => r = some (.int T) ∧ h' = h)) 0 0 4 [some (.int x), some (.int c), some (.int (nI p))] [] h := by
    intro m
    induction m with
    | zero =>
      intro p c hp hb
      have hz : (5 : Int32) ≤ nI p := nI_le (a := 5) (by omega) (by omega)
      refine gw_ev (T := gT0) 60 [4] gRt_m (gTO_0 _ _ _ ⟨Nat.le_refl _, Nat.le_refl _⟩) ?_
      simp only [vc_i, vc_l, vc_r, vc_n, Nat.succ_ne_self, gSd_s, gEd_s, gEd_0, gEd_B, gB_t, gB_f, gGo_c, gGo_n, gAll_n, gAll_c, gwK_s, gCT, gCF, gSet, gSet2, gKill, gTw, gTs, gLs, List.map_cons, List.map_nil, fv0, fv1, fv2, fv3, List.getElem?_cons_zero, List.getElem?_cons_succ, List.set_cons_zero, List.set_cons_succ, List.not_mem_nil, List.mem_cons, Option.toList_some, Option.toList_none, List.cons_append, List.nil_append, if_false, if_true, true_and, and_true, forall_const, true_implies, false_implies, or_false, false_or, not_true_eq_false, not_false_eq_true, and_false, false_and, implies_true, Nat.reduceAdd, Nat.reduceEqDiff, Nat.reduceLT, ↓reduceIte, cls_RF_size, st_iconst, st_istore_n, st_iload_n, st_if_icmp, st_ishr, st_iand, st_iadd, st_iinc, st_goto, st_ireturn, (show mRF_size.2.2.1 = 3 from rfl), dRF_size_0, ic_0, dRF_size_1, dRF_size_2, dRF_size_3, dRF_size_4, dRF_size_5, ic_5, dRF_size_6, tg_6_17, tz_6_17, dRF_size_9, dRF_size_10, dRF_size_11, dRF_size_12, dRF_size_13, ic_1, dRF_size_14, dRF_size_15, dRF_size_16, dRF_size_17, dRF_size_20, tg_20_m16, tz_20_m16, dRF_size_23, dRF_size_24, hz]
      exact ⟨rfl, by rw [← hb]; rfl⟩
    | succ m ih =>
      intro p c hp hb
      have hz : ¬ (5 : Int32) ≤ nI p := nI_ge (b := 5) (by omega) (by omega)
      refine gw_ev (T := gT0) 60 [4] gRt_m (gTO_0 _ _ _ ⟨Nat.le_refl _, Nat.le_refl _⟩) ?_
      simp only [vc_i, vc_l, vc_r, vc_n, Nat.succ_ne_self, gSd_s, gEd_s, gEd_0, gEd_B, gB_t, gB_f, gGo_c, gGo_n, gAll_n, gAll_c, gwK_s, gCT, gCF, gSet, gSet2, gKill, gTw, gTs, gLs, List.map_cons, List.map_nil, fv0, fv1, fv2, fv3, List.getElem?_cons_zero, List.getElem?_cons_succ, List.set_cons_zero, List.set_cons_succ, List.not_mem_nil, List.mem_cons, Option.toList_some, Option.toList_none, List.cons_append, List.nil_append, if_false, if_true, true_and, and_true, forall_const, true_implies, false_implies, or_false, false_or, not_true_eq_false, not_false_eq_true, and_false, false_and, implies_true, Nat.reduceAdd, Nat.reduceEqDiff, Nat.reduceLT, ↓reduceIte, cls_RF_size, st_iconst, st_istore_n, st_iload_n, st_if_icmp, st_ishr, st_iand, st_iadd, st_iinc, st_goto, st_ireturn, (show mRF_size.2.2.1 = 3 from rfl), dRF_size_0, ic_0, dRF_size_1, dRF_size_2, dRF_size_3, dRF_size_4, dRF_size_5, ic_5, dRF_size_6, tg_6_17, tz_6_17, dRF_size_9, dRF_size_10, dRF_size_11, dRF_size_12, dRF_size_13, ic_1, dRF_size_14, dRF_size_15, dRF_size_16, dRF_size_17, dRF_size_20, tg_20_m16, tz_20_m16, dRF_size_23, dRF_size_24, hz, nI_1]
      exact ih (p + 1) _ (by omega) hb
  refine gC_of (lv0 := [some (.int x), none, none]) (by decide +kernel) (Nat.le_of_ble_eq_true rfl) (fun q hq => hq) ⟨rfl, rfl⟩ ?_
  have h9 := loop 5 0 0 (by omega) hT.symm
  rw [nI_0] at h9
  refine gw_ev (T := gT0) 60 [4] gRt_m (gTO_0 _ _ _ ⟨Nat.le_refl _, Nat.le_refl _⟩) ?_
  simp only [vc_i, vc_l, vc_r, vc_n, Nat.succ_ne_self, gSd_s, gEd_s, gEd_0, gEd_B, gB_t, gB_f, gGo_c, gGo_n, gAll_n, gAll_c, gwK_s, gCT, gCF, gSet, gSet2, gKill, gTw, gTs, gLs, List.map_cons, List.map_nil, fv0, fv1, fv2, fv3, List.getElem?_cons_zero, List.getElem?_cons_succ, List.set_cons_zero, List.set_cons_succ, List.not_mem_nil, List.mem_cons, Option.toList_some, Option.toList_none, List.cons_append, List.nil_append, if_false, if_true, true_and, and_true, forall_const, true_implies, false_implies, or_false, false_or, not_true_eq_false, not_false_eq_true, and_false, false_and, implies_true, Nat.reduceAdd, Nat.reduceEqDiff, Nat.reduceLT, ↓reduceIte, cls_RF_size, st_iconst, st_istore_n, st_iload_n, st_if_icmp, st_ishr, st_iand, st_iadd, st_iinc, st_goto, st_ireturn, (show mRF_size.2.2.1 = 3 from rfl), dRF_size_0, ic_0, dRF_size_1, dRF_size_2, dRF_size_3, dRF_size_4, dRF_size_5, ic_5, dRF_size_6, tg_6_17, tz_6_17, dRF_size_9, dRF_size_10, dRF_size_11, dRF_size_12, dRF_size_13, ic_1, dRF_size_14, dRF_size_15, dRF_size_16, dRF_size_17, dRF_size_20, tg_20_m16, tz_20_m16, dRF_size_23, dRF_size_24]
  exact h9
def clashF (a b p q : Int32) : Bool := decide (a / 5 = b / 5 ∧ p = q)
set_option maxRecDepth 100000 in
theorem c_RF_clash (l : Launch) (g : gG) (a b p q : Int32) (h : gH) : gC l g mRF_clash (gr 0) [.int a, .int b, .int p, .int q] h (fun r h' => r = some (.int (bI (clashF a b p q))) ∧ h' = h) := by
  have z5 : ¬ (5 : Int32) = 0 := by decide
  refine gC_of (lv0 := [some (.int a), some (.int b), some (.int p), some (.int q)]) (by decide +kernel) (Nat.le_of_ble_eq_true rfl) (fun q hq => hq) ⟨rfl, rfl⟩ ?_
  by_cases h1 : a / 5 = b / 5
  · have e1 : (a / 5 = b / 5) = True := eq_true h1
    by_cases h2 : p = q
    · have e2 : (p = q) = True := eq_true h2
      refine gw_ev (T := gT0) 60 [] gRt_m (gTO_0 _ _ _ ⟨Nat.le_refl _, Nat.le_refl _⟩) ?_
      simp only [vc_i, vc_l, vc_r, vc_n, Nat.succ_ne_self, gSd_s, gEd_s, gEd_0, gEd_B, gB_t, gB_f, gGo_c, gGo_n, gAll_n, gAll_c, gwK_s, gCT, gCF, gSet, gSet2, gKill, gTw, gTs, gLs, List.map_cons, List.map_nil, fv0, fv1, fv2, fv3, List.getElem?_cons_zero, List.getElem?_cons_succ, List.set_cons_zero, List.set_cons_succ, List.not_mem_nil, List.mem_cons, Option.toList_some, Option.toList_none, List.cons_append, List.nil_append, if_false, if_true, true_and, and_true, forall_const, true_implies, false_implies, or_false, false_or, not_true_eq_false, not_false_eq_true, and_false, false_and, implies_true, Nat.reduceAdd, Nat.reduceEqDiff, Nat.reduceLT, ↓reduceIte, cls_RF_clash, st_iload_n, st_iconst, st_idiv, st_if_icmp, st_goto, st_ireturn, (show mRF_clash.2.2.1 = 4 from rfl), dRF_clash_0, dRF_clash_1, ic_5, dRF_clash_2, dRF_clash_3, dRF_clash_4, dRF_clash_5, dRF_clash_6, tg_6_12, tz_6_12, dRF_clash_9, dRF_clash_10, dRF_clash_11, tg_11_7, tz_11_7, dRF_clash_14, ic_1, dRF_clash_15, tg_15_4, tz_15_4, dRF_clash_18, ic_0, dRF_clash_19, z5, e1, e2]
      exact ⟨rfl, by simp [clashF, bI, h1, h2]⟩
    · refine gw_ev (T := gT0) 60 [] gRt_m (gTO_0 _ _ _ ⟨Nat.le_refl _, Nat.le_refl _⟩) ?_
      simp only [vc_i, vc_l, vc_r, vc_n, Nat.succ_ne_self, gSd_s, gEd_s, gEd_0, gEd_B, gB_t, gB_f, gGo_c, gGo_n, gAll_n, gAll_c, gwK_s, gCT, gCF, gSet, gSet2, gKill, gTw, gTs, gLs, List.map_cons, List.map_nil, fv0, fv1, fv2, fv3, List.getElem?_cons_zero, List.getElem?_cons_succ, List.set_cons_zero, List.set_cons_succ, List.not_mem_nil, List.mem_cons, Option.toList_some, Option.toList_none, List.cons_append, List.nil_append, if_false, if_true, true_and, and_true, forall_const, true_implies, false_implies, or_false, false_or, not_true_eq_false, not_false_eq_true, and_false, false_and, implies_true, Nat.reduceAdd, Nat.reduceEqDiff, Nat.reduceLT, ↓reduceIte, cls_RF_clash, st_iload_n, st_iconst, st_idiv, st_if_icmp, st_goto, st_ireturn, (show mRF_clash.2.2.1 = 4 from rfl), dRF_clash_0, dRF_clash_1, ic_5, dRF_clash_2, dRF_clash_3, dRF_clash_4, dRF_clash_5, dRF_clash_6, tg_6_12, tz_6_12, dRF_clash_9, dRF_clash_10, dRF_clash_11, tg_11_7, tz_11_7, dRF_clash_14, ic_1, dRF_clash_15, tg_15_4, tz_15_4, dRF_clash_18, ic_0, dRF_clash_19, z5, e1, h2]
      exact ⟨rfl, by simp [clashF, bI, h2]⟩
  · refine gw_ev (T := gT0) 60 [] gRt_m (gTO_0 _ _ _ ⟨Nat.le_refl _, Nat.le_refl _⟩) ?_
    simp only [vc_i, vc_l, vc_r, vc_n, Nat.succ_ne_self, gSd_s, gEd_s, gEd_0, gEd_B, gB_t, gB_f, gGo_c, gGo_n, gAll_n, gAll_c, gwK_s, gCT, gCF, gSet, gSet2, gKill, gTw, gTs, gLs, List.map_cons, List.map_nil, fv0, fv1, fv2, fv3, List.getElem?_cons_zero, List.getElem?_cons_succ, List.set_cons_zero, List.set_cons_succ, List.not_mem_nil, List.mem_cons, Option.toList_some, Option.toList_none, List.cons_append, List.nil_append, if_false, if_true, true_and, and_true, forall_const, true_implies, false_implies, or_false, false_or, not_true_eq_false, not_false_eq_true, and_false, false_and, implies_true, Nat.reduceAdd, Nat.reduceEqDiff, Nat.reduceLT, ↓reduceIte, cls_RF_clash, st_iload_n, st_iconst, st_idiv, st_if_icmp, st_goto, st_ireturn, (show mRF_clash.2.2.1 = 4 from rfl), dRF_clash_0, dRF_clash_1, ic_5, dRF_clash_2, dRF_clash_3, dRF_clash_4, dRF_clash_5, dRF_clash_6, tg_6_12, tz_6_12, dRF_clash_9, dRF_clash_10, dRF_clash_11, tg_11_7, tz_11_7, dRF_clash_14, ic_1, dRF_clash_15, tg_15_4, tz_15_4, dRF_clash_18, ic_0, dRF_clash_19, z5, h1]
    exact ⟨rfl, by simp [clashF, bI, h1]⟩
def byG (w : Int64) (s : Int32) : Int64 := (w >>> (s.toInt64 &&& 63)) &&& 255
def leS (w : Int64) : Nat → Int64 → Int64
  | 0, v => v
  | m + 1, v => leS w m (if byG w (shN (m + 1)) = 0 then v else v <<< ((8 : Int32).toInt64 &&& 63) ||| byG w (shN (m + 1)))
set_option maxRecDepth 100000 in
theorem c_RF_letters (l : Launch) (g : gG) (w : Int64) (h : gH) : gC l g mRF_letters (gr 0) [.long w] h (fun r h' => r = some (.long (leS w 8 0)) ∧ h' = h) := by
  obtain ⟨T, hT⟩ : ∃ T, T = leS w 8 0 := ⟨_, rfl⟩
  rw [← hT]
  have loop : ∀ (m : Nat) (v : Int64), m ≤ 8 → leS w m v = T → gw l g mRF_letters (gr 0) h (gZm g h 0 0 (fun r h' => r = some (.long T) ∧ h' = h)) 0 0 6 [some (.long w), none, some (.long v), none, some (.int (shN m))] [] h := by
    intro m
    induction m with
    | zero =>
      intro v hm hb
      have hz := shN_0
      refine gw_ev (T := gT0) 60 [6] gRt_m (gTO_0 _ _ _ ⟨Nat.le_refl _, Nat.le_refl _⟩) ?_
      simp only [vc_i, vc_l, vc_r, vc_n, Nat.succ_ne_self, gSd_s, gEd_s, gEd_0, gEd_B, gB_t, gB_f, gGo_c, gGo_n, gAll_n, gAll_c, gwK_s, gCT, gCF, gSet, gSet2, gKill, gTw, gTs, gLs, List.map_cons, List.map_nil, fv0, fv1, fv2, fv3, List.getElem?_cons_zero, List.getElem?_cons_succ, List.set_cons_zero, List.set_cons_succ, List.not_mem_nil, List.mem_cons, Option.toList_some, Option.toList_none, List.cons_append, List.nil_append, if_false, if_true, true_and, and_true, forall_const, true_implies, false_implies, or_false, false_or, not_true_eq_false, not_false_eq_true, and_false, false_and, implies_true, Nat.reduceAdd, Nat.reduceEqDiff, Nat.reduceLT, ↓reduceIte, cls_RF_letters, st_lconst, st_lstore_n, st_bipush, st_istore, st_iload, st_ifCond, st_lload_n, st_lshr, st_ldc2_w, st_land, st_lcmp, st_goto, st_lshl, st_lor, st_iinc, st_lreturn, (show mRF_letters.2.2.1 = 5 from rfl), kl_RF_240, dRF_letters_0, lc_0, dRF_letters_1, dRF_letters_2, bi_56, dRF_letters_4, dRF_letters_6, dRF_letters_8, tg_8_40, tz_8_40, dRF_letters_11, dRF_letters_12, dRF_letters_14, dRF_letters_15, dRF_letters_18, dRF_letters_19, dRF_letters_20, dRF_letters_21, tg_21_7, tz_21_7, dRF_letters_24, dRF_letters_25, tg_25_16, tz_25_16, dRF_letters_28, dRF_letters_29, bi_8, dRF_letters_31, dRF_letters_32, dRF_letters_33, dRF_letters_35, dRF_letters_36, dRF_letters_39, dRF_letters_40, dRF_letters_41, dRF_letters_42, ic_m8, dRF_letters_45, tg_45_m39, tz_45_m39, dRF_letters_48, dRF_letters_49, hz]
      exact ⟨rfl, by rw [← hb]; rfl⟩
    | succ m ih =>
      intro v hm hb
      have hz := shN_ge m (by omega)
      have hg := shN_go m (by omega)
      have hb2 : leS w m (if byG w (shN (m + 1)) = 0 then v else v <<< ((8 : Int32).toInt64 &&& 63) ||| byG w (shN (m + 1))) = T := hb
      have hbt : (w >>> ((shN (m + 1)).toInt64 &&& 63)) &&& 255 = byG w (shN (m + 1)) := rfl
      generalize byG w (shN (m + 1)) = b at hb2 hbt
      by_cases h0 : b = 0
      · have e0 : (b = 0) = True := eq_true h0
        rw [if_pos h0] at hb2
        refine gw_ev (T := gT0) 60 [6] gRt_m (gTO_0 _ _ _ ⟨Nat.le_refl _, Nat.le_refl _⟩) ?_
        simp only [vc_i, vc_l, vc_r, vc_n, Nat.succ_ne_self, gSd_s, gEd_s, gEd_0, gEd_B, gB_t, gB_f, gGo_c, gGo_n, gAll_n, gAll_c, gwK_s, gCT, gCF, gSet, gSet2, gKill, gTw, gTs, gLs, List.map_cons, List.map_nil, fv0, fv1, fv2, fv3, List.getElem?_cons_zero, List.getElem?_cons_succ, List.set_cons_zero, List.set_cons_succ, List.not_mem_nil, List.mem_cons, Option.toList_some, Option.toList_none, List.cons_append, List.nil_append, if_false, if_true, true_and, and_true, forall_const, true_implies, false_implies, or_false, false_or, not_true_eq_false, not_false_eq_true, and_false, false_and, implies_true, Nat.reduceAdd, Nat.reduceEqDiff, Nat.reduceLT, ↓reduceIte, cls_RF_letters, st_lconst, st_lstore_n, st_bipush, st_istore, st_iload, st_ifCond, st_lload_n, st_lshr, st_ldc2_w, st_land, st_lcmp, st_goto, st_lshl, st_lor, st_iinc, st_lreturn, (show mRF_letters.2.2.1 = 5 from rfl), kl_RF_240, dRF_letters_0, lc_0, dRF_letters_1, dRF_letters_2, bi_56, dRF_letters_4, dRF_letters_6, dRF_letters_8, tg_8_40, tz_8_40, dRF_letters_11, dRF_letters_12, dRF_letters_14, dRF_letters_15, dRF_letters_18, dRF_letters_19, dRF_letters_20, dRF_letters_21, tg_21_7, tz_21_7, dRF_letters_24, dRF_letters_25, tg_25_16, tz_25_16, dRF_letters_28, dRF_letters_29, bi_8, dRF_letters_31, dRF_letters_32, dRF_letters_33, dRF_letters_35, dRF_letters_36, dRF_letters_39, dRF_letters_40, dRF_letters_41, dRF_letters_42, ic_m8, dRF_letters_45, tg_45_m39, tz_45_m39, dRF_letters_48, dRF_letters_49, hz, hg, hbt, lc_eq, e0]
        exact ih v (by omega) hb2
      · rw [if_neg h0] at hb2
        refine gw_ev (T := gT0) 60 [6] gRt_m (gTO_0 _ _ _ ⟨Nat.le_refl _, Nat.le_refl _⟩) ?_
        simp only [vc_i, vc_l, vc_r, vc_n, Nat.succ_ne_self, gSd_s, gEd_s, gEd_0, gEd_B, gB_t, gB_f, gGo_c, gGo_n, gAll_n, gAll_c, gwK_s, gCT, gCF, gSet, gSet2, gKill, gTw, gTs, gLs, List.map_cons, List.map_nil, fv0, fv1, fv2, fv3, List.getElem?_cons_zero, List.getElem?_cons_succ, List.set_cons_zero, List.set_cons_succ, List.not_mem_nil, List.mem_cons, Option.toList_some, Option.toList_none, List.cons_append, List.nil_append, if_false, if_true, true_and, and_true, forall_const, true_implies, false_implies, or_false, false_or, not_true_eq_false, not_false_eq_true, and_false, false_and, implies_true, Nat.reduceAdd, Nat.reduceEqDiff, Nat.reduceLT, ↓reduceIte, cls_RF_letters, st_lconst, st_lstore_n, st_bipush, st_istore, st_iload, st_ifCond, st_lload_n, st_lshr, st_ldc2_w, st_land, st_lcmp, st_goto, st_lshl, st_lor, st_iinc, st_lreturn, (show mRF_letters.2.2.1 = 5 from rfl), kl_RF_240, dRF_letters_0, lc_0, dRF_letters_1, dRF_letters_2, bi_56, dRF_letters_4, dRF_letters_6, dRF_letters_8, tg_8_40, tz_8_40, dRF_letters_11, dRF_letters_12, dRF_letters_14, dRF_letters_15, dRF_letters_18, dRF_letters_19, dRF_letters_20, dRF_letters_21, tg_21_7, tz_21_7, dRF_letters_24, dRF_letters_25, tg_25_16, tz_25_16, dRF_letters_28, dRF_letters_29, bi_8, dRF_letters_31, dRF_letters_32, dRF_letters_33, dRF_letters_35, dRF_letters_36, dRF_letters_39, dRF_letters_40, dRF_letters_41, dRF_letters_42, ic_m8, dRF_letters_45, tg_45_m39, tz_45_m39, dRF_letters_48, dRF_letters_49, hz, hg, hbt, lc_eq, h0]
        exact ih _ (by omega) hb2
  refine gC_of (lv0 := [some (.long w), none, none, none, none]) (by decide +kernel) (Nat.le_of_ble_eq_true rfl) (fun q hq => hq) ⟨rfl, rfl⟩ ?_
  have h9 := loop 8 0 (by omega) hT.symm
  rw [← shN_8] at h9
  refine gw_ev (T := gT0) 60 [6] gRt_m (gTO_0 _ _ _ ⟨Nat.le_refl _, Nat.le_refl _⟩) ?_
  simp only [vc_i, vc_l, vc_r, vc_n, Nat.succ_ne_self, gSd_s, gEd_s, gEd_0, gEd_B, gB_t, gB_f, gGo_c, gGo_n, gAll_n, gAll_c, gwK_s, gCT, gCF, gSet, gSet2, gKill, gTw, gTs, gLs, List.map_cons, List.map_nil, fv0, fv1, fv2, fv3, List.getElem?_cons_zero, List.getElem?_cons_succ, List.set_cons_zero, List.set_cons_succ, List.not_mem_nil, List.mem_cons, Option.toList_some, Option.toList_none, List.cons_append, List.nil_append, if_false, if_true, true_and, and_true, forall_const, true_implies, false_implies, or_false, false_or, not_true_eq_false, not_false_eq_true, and_false, false_and, implies_true, Nat.reduceAdd, Nat.reduceEqDiff, Nat.reduceLT, ↓reduceIte, cls_RF_letters, st_lconst, st_lstore_n, st_bipush, st_istore, st_iload, st_ifCond, st_lload_n, st_lshr, st_ldc2_w, st_land, st_lcmp, st_goto, st_lshl, st_lor, st_iinc, st_lreturn, (show mRF_letters.2.2.1 = 5 from rfl), kl_RF_240, dRF_letters_0, lc_0, dRF_letters_1, dRF_letters_2, bi_56, dRF_letters_4, dRF_letters_6, dRF_letters_8, tg_8_40, tz_8_40, dRF_letters_11, dRF_letters_12, dRF_letters_14, dRF_letters_15, dRF_letters_18, dRF_letters_19, dRF_letters_20, dRF_letters_21, tg_21_7, tz_21_7, dRF_letters_24, dRF_letters_25, tg_25_16, tz_25_16, dRF_letters_28, dRF_letters_29, bi_8, dRF_letters_31, dRF_letters_32, dRF_letters_33, dRF_letters_35, dRF_letters_36, dRF_letters_39, dRF_letters_40, dRF_letters_41, dRF_letters_42, ic_m8, dRF_letters_45, tg_45_m39, tz_45_m39, dRF_letters_48, dRF_letters_49]
  exact h9
def gp_RF_index : gPF := fun _ st h => match st with
  | .int x :: r => some (gCs r ≤ 8, .int (idxF x) :: r, h)
  | _ => none
theorem e_RF_index : gEK 1 118 gp_RF_index := gE_S (d := 0) mRF_index rfl rfl wc_RF_index wt_RF_index wn_RF (N := 1) (by decide +kernel) (by decide) (fun g st h P st2 h2 he hP => by
  unfold gp_RF_index at he
  split at he
  · rename_i x r
    cases he
    exact ⟨[.int x], r, some (.int (idxF x)), rfl, rfl, hP, rfl, fun l => c_RF_index l g x h⟩
  · cases he)
def gp_RF_many : gPF := fun _ st h => match st with
  | .int x :: r => some (gCs r ≤ 8, .int (manyN x) :: r, h)
  | _ => none
theorem e_RF_many : gEK 1 121 gp_RF_many := gE_S (d := 0) mRF_many rfl rfl wc_RF_many wt_RF_many wn_RF (N := 1) (by decide +kernel) (by decide) (fun g st h P st2 h2 he hP => by
  unfold gp_RF_many at he
  split at he
  · rename_i x r
    cases he
    exact ⟨[.int x], r, some (.int (manyN x)), rfl, rfl, hP, rfl, fun l => c_RF_many l g x h⟩
  · cases he)
def gp_RF_size : gPF := fun _ st h => match st with
  | .int x :: r => some (gCs r ≤ 8, .int (sizeF x) :: r, h)
  | _ => none
theorem e_RF_size : gEK 1 135 gp_RF_size := gE_S (d := 0) mRF_size rfl rfl wc_RF_size wt_RF_size wn_RF (N := 1) (by decide +kernel) (by decide) (fun g st h P st2 h2 he hP => by
  unfold gp_RF_size at he
  split at he
  · rename_i x r
    cases he
    exact ⟨[.int x], r, some (.int (sizeF x)), rfl, rfl, hP, rfl, fun l => c_RF_size l g x h⟩
  · cases he)
def gp_RF_clash : gPF := fun _ st h => match st with
  | .int q :: .int p :: .int b :: .int a :: r => some (gCs r ≤ 8, .int (bI (clashF a b p q)) :: r, h)
  | _ => none
theorem e_RF_clash : gEK 1 139 gp_RF_clash := gE_S (d := 0) mRF_clash rfl rfl wc_RF_clash wt_RF_clash wn_RF (N := 4) (by decide +kernel) (by decide) (fun g st h P st2 h2 he hP => by
  unfold gp_RF_clash at he
  split at he
  · rename_i q p b a r
    cases he
    exact ⟨[.int a, .int b, .int p, .int q], r, some (.int (bI (clashF a b p q))), rfl, rfl, hP, rfl, fun l => c_RF_clash l g a b p q h⟩
  · cases he)
def gp_RF_letters : gPF := fun _ st h => match st with
  | .long w :: r => some (gCs r ≤ 8, .long (leS w 8 0) :: r, h)
  | _ => none
theorem e_RF_letters : gEK 1 152 gp_RF_letters := gE_S (d := 0) mRF_letters rfl rfl wc_RF_letters wt_RF_letters wn_RF (N := 1) (by decide +kernel) (by decide) (fun g st h P st2 h2 he hP => by
  unfold gp_RF_letters at he
  split at he
  · rename_i w r
    cases he
    exact ⟨[.long w], r, some (.long (leS w 8 0)), rfl, rfl, hP, rfl, fun l => c_RF_letters l g w h⟩
  · cases he)
def thingB (n s x : Int32) : Bool := decide (¬ x < 10 ∧ x / 10 ≤ s ∧ x - x / 10 * 10 < n)
set_option maxRecDepth 100000 in
theorem c_RF_isThing (l : Launch) (g : gG) (o : Nat) (fs : List Value) (n s x : Int32) (h : gH) (ho : h o = some (.inr (6, fs))) (f2 : fs[2]? = some (.int n)) (f3 : fs[3]? = some (.int s)) : gC l g mRF_isThing (gr 0) [.ref o, .int x] h (fun r h' => r = some (.int (bI (thingB n s x))) ∧ h' = h) := by
  have z10 : ¬ (10 : Int32) = 0 := by decide
  refine gC_of (lv0 := [some (.ref o), some (.int x)]) (by decide +kernel) (Nat.le_of_ble_eq_true rfl) (fun q hq => hq) ⟨rfl, rfl⟩ ?_
  unfold thingB
  by_cases h1 : x < 10
  · refine gw_ev (T := gT0) 60 [] gRt_m (gTO_0 _ _ _ ⟨Nat.le_refl _, Nat.le_refl _⟩) ?_
    simp only [vc_i, vc_l, vc_r, vc_n, Nat.succ_ne_self, gSd_s, gEd_s, gEd_0, gEd_B, gB_t, gB_f, gGo_c, gGo_n, gAll_n, gAll_c, gwK_s, gCT, gCF, gSet, gSet2, gKill, gTw, gTs, gLs, List.map_cons, List.map_nil, fv0, fv1, fv2, fv3, List.getElem?_cons_zero, List.getElem?_cons_succ, List.set_cons_zero, List.set_cons_succ, List.not_mem_nil, List.mem_cons, Option.toList_some, Option.toList_none, List.cons_append, List.nil_append, if_false, if_true, true_and, and_true, forall_const, true_implies, false_implies, or_false, false_or, not_true_eq_false, not_false_eq_true, and_false, false_and, implies_true, Nat.reduceAdd, Nat.reduceEqDiff, Nat.reduceLT, ↓reduceIte, cls_RF_isThing, st_iload_n, st_bipush, st_if_icmp, st_idiv, st_aload_n, st_getfield, st_irem, st_iconst, st_goto, st_ireturn, (show mRF_isThing.2.2.1 = 2 from rfl), gF_RF_88, gF_RF_85, dRF_isThing_0, dRF_isThing_1, bi_10, dRF_isThing_3, tg_3_29, tz_3_29, dRF_isThing_6, dRF_isThing_7, dRF_isThing_9, dRF_isThing_10, dRF_isThing_11, dRF_isThing_14, tg_14_18, tz_14_18, dRF_isThing_17, dRF_isThing_18, dRF_isThing_20, dRF_isThing_21, dRF_isThing_22, dRF_isThing_25, tg_25_7, tz_25_7, dRF_isThing_28, ic_1, dRF_isThing_29, tg_29_4, tz_29_4, dRF_isThing_32, ic_0, dRF_isThing_33, h1]
    exact ⟨rfl, by simp only [h1, not_true_eq_false, false_and, decide_false]; rfl⟩
  · by_cases h2 : s < x / 10
    · have e2 : ¬ x / 10 ≤ s := Int32.not_le.mpr h2
      refine gw_ev (T := gT0) 60 [] gRt_m (gTO_0 _ _ _ ⟨Nat.le_refl _, Nat.le_refl _⟩) ?_
      simp only [vc_i, vc_l, vc_r, vc_n, Nat.succ_ne_self, gSd_s, gEd_s, gEd_0, gEd_B, gB_t, gB_f, gGo_c, gGo_n, gAll_n, gAll_c, gwK_s, gCT, gCF, gSet, gSet2, gKill, gTw, gTs, gLs, List.map_cons, List.map_nil, fv0, fv1, fv2, fv3, List.getElem?_cons_zero, List.getElem?_cons_succ, List.set_cons_zero, List.set_cons_succ, List.not_mem_nil, List.mem_cons, Option.toList_some, Option.toList_none, List.cons_append, List.nil_append, if_false, if_true, true_and, and_true, forall_const, true_implies, false_implies, or_false, false_or, not_true_eq_false, not_false_eq_true, and_false, false_and, implies_true, Nat.reduceAdd, Nat.reduceEqDiff, Nat.reduceLT, ↓reduceIte, cls_RF_isThing, st_iload_n, st_bipush, st_if_icmp, st_idiv, st_aload_n, st_getfield, st_irem, st_iconst, st_goto, st_ireturn, (show mRF_isThing.2.2.1 = 2 from rfl), gF_RF_88, gF_RF_85, dRF_isThing_0, dRF_isThing_1, bi_10, dRF_isThing_3, tg_3_29, tz_3_29, dRF_isThing_6, dRF_isThing_7, dRF_isThing_9, dRF_isThing_10, dRF_isThing_11, dRF_isThing_14, tg_14_18, tz_14_18, dRF_isThing_17, dRF_isThing_18, dRF_isThing_20, dRF_isThing_21, dRF_isThing_22, dRF_isThing_25, tg_25_7, tz_25_7, dRF_isThing_28, ic_1, dRF_isThing_29, tg_29_4, tz_29_4, dRF_isThing_32, ic_0, dRF_isThing_33, h1, ho, f3, h2, z10]
      exact ⟨rfl, by simp only [e2, false_and, and_false, decide_false]; rfl⟩
    · have e2 : x / 10 ≤ s := Int32.not_lt.mp h2
      by_cases h3 : n ≤ x - x / 10 * 10
      · have e3 : ¬ x - x / 10 * 10 < n := Int32.not_lt.mpr h3
        refine gw_ev (T := gT0) 60 [] gRt_m (gTO_0 _ _ _ ⟨Nat.le_refl _, Nat.le_refl _⟩) ?_
        simp only [vc_i, vc_l, vc_r, vc_n, Nat.succ_ne_self, gSd_s, gEd_s, gEd_0, gEd_B, gB_t, gB_f, gGo_c, gGo_n, gAll_n, gAll_c, gwK_s, gCT, gCF, gSet, gSet2, gKill, gTw, gTs, gLs, List.map_cons, List.map_nil, fv0, fv1, fv2, fv3, List.getElem?_cons_zero, List.getElem?_cons_succ, List.set_cons_zero, List.set_cons_succ, List.not_mem_nil, List.mem_cons, Option.toList_some, Option.toList_none, List.cons_append, List.nil_append, if_false, if_true, true_and, and_true, forall_const, true_implies, false_implies, or_false, false_or, not_true_eq_false, not_false_eq_true, and_false, false_and, implies_true, Nat.reduceAdd, Nat.reduceEqDiff, Nat.reduceLT, ↓reduceIte, cls_RF_isThing, st_iload_n, st_bipush, st_if_icmp, st_idiv, st_aload_n, st_getfield, st_irem, st_iconst, st_goto, st_ireturn, (show mRF_isThing.2.2.1 = 2 from rfl), gF_RF_88, gF_RF_85, dRF_isThing_0, dRF_isThing_1, bi_10, dRF_isThing_3, tg_3_29, tz_3_29, dRF_isThing_6, dRF_isThing_7, dRF_isThing_9, dRF_isThing_10, dRF_isThing_11, dRF_isThing_14, tg_14_18, tz_14_18, dRF_isThing_17, dRF_isThing_18, dRF_isThing_20, dRF_isThing_21, dRF_isThing_22, dRF_isThing_25, tg_25_7, tz_25_7, dRF_isThing_28, ic_1, dRF_isThing_29, tg_29_4, tz_29_4, dRF_isThing_32, ic_0, dRF_isThing_33, h1, ho, f2, f3, h2, h3, z10]
        exact ⟨rfl, by simp only [e3, and_false, decide_false]; rfl⟩
      · have e3 : x - x / 10 * 10 < n := Int32.not_le.mp h3
        refine gw_ev (T := gT0) 60 [] gRt_m (gTO_0 _ _ _ ⟨Nat.le_refl _, Nat.le_refl _⟩) ?_
        simp only [vc_i, vc_l, vc_r, vc_n, Nat.succ_ne_self, gSd_s, gEd_s, gEd_0, gEd_B, gB_t, gB_f, gGo_c, gGo_n, gAll_n, gAll_c, gwK_s, gCT, gCF, gSet, gSet2, gKill, gTw, gTs, gLs, List.map_cons, List.map_nil, fv0, fv1, fv2, fv3, List.getElem?_cons_zero, List.getElem?_cons_succ, List.set_cons_zero, List.set_cons_succ, List.not_mem_nil, List.mem_cons, Option.toList_some, Option.toList_none, List.cons_append, List.nil_append, if_false, if_true, true_and, and_true, forall_const, true_implies, false_implies, or_false, false_or, not_true_eq_false, not_false_eq_true, and_false, false_and, implies_true, Nat.reduceAdd, Nat.reduceEqDiff, Nat.reduceLT, ↓reduceIte, cls_RF_isThing, st_iload_n, st_bipush, st_if_icmp, st_idiv, st_aload_n, st_getfield, st_irem, st_iconst, st_goto, st_ireturn, (show mRF_isThing.2.2.1 = 2 from rfl), gF_RF_88, gF_RF_85, dRF_isThing_0, dRF_isThing_1, bi_10, dRF_isThing_3, tg_3_29, tz_3_29, dRF_isThing_6, dRF_isThing_7, dRF_isThing_9, dRF_isThing_10, dRF_isThing_11, dRF_isThing_14, tg_14_18, tz_14_18, dRF_isThing_17, dRF_isThing_18, dRF_isThing_20, dRF_isThing_21, dRF_isThing_22, dRF_isThing_25, tg_25_7, tz_25_7, dRF_isThing_28, ic_1, dRF_isThing_29, tg_29_4, tz_29_4, dRF_isThing_32, ic_0, dRF_isThing_33, h1, ho, f2, f3, h2, h3, z10]
        exact ⟨rfl, by simp only [h1, e2, e3, not_false_eq_true, and_self, decide_true]; rfl⟩
def gp_RF_isThing : gPF := fun g st h => match st with
  | .int x :: .ref o :: r => match h o with
    | some (.inr (6, fs)) => match (fs[2]? : Option Value), (fs[3]? : Option Value) with
      | some (.int n), some (.int s) => some (gCs r ≤ 8, .int (bI (thingB n s x)) :: r, h)
      | _, _ => none
    | _ => none
  | _ => none
theorem e_RF_isThing : gEK 1 107 gp_RF_isThing := gE_V (d := 0) (ci := 6) mRF_isThing rfl rfl rfl wc_RF_isThing wi_RF_isThing ws_RF_isThing wn_RF (N := 1) (by decide +kernel) (by decide) (fun g st h P st2 h2 he hP => by
  unfold gp_RF_isThing at he
  split at he
  · rename_i x o r
    split at he
    · rename_i fs ho
      split at he
      · rename_i n s f2 f3
        cases he
        exact ⟨[.int x], r, o, fs, some (.int (bI (thingB n s x))), rfl, ho, rfl, hP, rfl, fun l => c_RF_isThing l g o fs n s x h ho f2 f3⟩
      · cases he
    · cases he
  · cases he)
def endB (a : Int32) : Bool := decide (a = 61)
set_option maxRecDepth 100000 in
theorem c_RF_isAtEnd (l : Launch) (g : gG) (o : Nat) (fs : List Value) (a : Int32) (h : gH) (ho : h o = some (.inr (6, fs))) (f23 : fs[23]? = some (.int a)) : gC l g mRF_isAtEnd (gr 0) [.ref o] h (fun r h' => r = some (.int (bI (endB a))) ∧ h' = h) := by
  refine gC_of (lv0 := [some (.ref o)]) (by decide +kernel) (Nat.le_of_ble_eq_true rfl) (fun q hq => hq) ⟨rfl, rfl⟩ ?_
  by_cases h1 : a = 61
  · have e1 : (a = 61) = True := eq_true h1
    refine gw_ev (T := gT0) 60 [] gRt_m (gTO_0 _ _ _ ⟨Nat.le_refl _, Nat.le_refl _⟩) ?_
    simp only [vc_i, vc_l, vc_r, vc_n, Nat.succ_ne_self, gSd_s, gEd_s, gEd_0, gEd_B, gB_t, gB_f, gGo_c, gGo_n, gAll_n, gAll_c, gwK_s, gCT, gCF, gSet, gSet2, gKill, gTw, gTs, gLs, List.map_cons, List.map_nil, fv0, fv1, fv2, fv3, List.getElem?_cons_zero, List.getElem?_cons_succ, List.set_cons_zero, List.set_cons_succ, List.not_mem_nil, List.mem_cons, Option.toList_some, Option.toList_none, List.cons_append, List.nil_append, if_false, if_true, true_and, and_true, forall_const, true_implies, false_implies, or_false, false_or, not_true_eq_false, not_false_eq_true, and_false, false_and, implies_true, Nat.reduceAdd, Nat.reduceEqDiff, Nat.reduceLT, ↓reduceIte, cls_RF_isAtEnd, st_aload_n, st_getfield, st_bipush, st_if_icmp, st_iconst, st_goto, st_ireturn, (show mRF_isAtEnd.2.2.1 = 1 from rfl), gF_RF_270, dRF_isAtEnd_0, dRF_isAtEnd_1, dRF_isAtEnd_4, bi_61, dRF_isAtEnd_6, tg_6_7, tz_6_7, dRF_isAtEnd_9, ic_1, dRF_isAtEnd_10, tg_10_4, tz_10_4, dRF_isAtEnd_13, ic_0, dRF_isAtEnd_14, ho, f23, e1]
    exact ⟨rfl, by simp [endB, bI, h1]⟩
  · refine gw_ev (T := gT0) 60 [] gRt_m (gTO_0 _ _ _ ⟨Nat.le_refl _, Nat.le_refl _⟩) ?_
    simp only [vc_i, vc_l, vc_r, vc_n, Nat.succ_ne_self, gSd_s, gEd_s, gEd_0, gEd_B, gB_t, gB_f, gGo_c, gGo_n, gAll_n, gAll_c, gwK_s, gCT, gCF, gSet, gSet2, gKill, gTw, gTs, gLs, List.map_cons, List.map_nil, fv0, fv1, fv2, fv3, List.getElem?_cons_zero, List.getElem?_cons_succ, List.set_cons_zero, List.set_cons_succ, List.not_mem_nil, List.mem_cons, Option.toList_some, Option.toList_none, List.cons_append, List.nil_append, if_false, if_true, true_and, and_true, forall_const, true_implies, false_implies, or_false, false_or, not_true_eq_false, not_false_eq_true, and_false, false_and, implies_true, Nat.reduceAdd, Nat.reduceEqDiff, Nat.reduceLT, ↓reduceIte, cls_RF_isAtEnd, st_aload_n, st_getfield, st_bipush, st_if_icmp, st_iconst, st_goto, st_ireturn, (show mRF_isAtEnd.2.2.1 = 1 from rfl), gF_RF_270, dRF_isAtEnd_0, dRF_isAtEnd_1, dRF_isAtEnd_4, bi_61, dRF_isAtEnd_6, tg_6_7, tz_6_7, dRF_isAtEnd_9, ic_1, dRF_isAtEnd_10, tg_10_4, tz_10_4, dRF_isAtEnd_13, ic_0, dRF_isAtEnd_14, ho, f23, h1]
    exact ⟨rfl, by simp [endB, bI, h1]⟩
def gp_RF_isAtEnd : gPF := fun g st h => match st with
  | .ref o :: r => match h o with
    | some (.inr (6, fs)) => match (fs[23]? : Option Value) with
      | some (.int a) => some (gCs r ≤ 8, .int (bI (endB a)) :: r, h)
      | _ => none
    | _ => none
  | _ => none
theorem e_RF_isAtEnd : gEK 1 161 gp_RF_isAtEnd := gE_V (d := 0) (ci := 6) mRF_isAtEnd rfl rfl rfl wc_RF_isAtEnd wi_RF_isAtEnd ws_RF_isAtEnd wn_RF (N := 0) (by decide +kernel) (by decide) (fun g st h P st2 h2 he hP => by
  unfold gp_RF_isAtEnd at he
  split at he
  · rename_i o r
    split at he
    · rename_i fs ho
      split at he
      · rename_i a f23
        cases he
        exact ⟨[], r, o, fs, some (.int (bI (endB a))), rfl, ho, rfl, hP, rfl, fun l => c_RF_isAtEnd l g o fs a h ho f23⟩
      · cases he
    · cases he
  · cases he)
def gT1r : gTB := gTu (gTu (gTu (gTu (gTu (gTu (gTu (gT0) 118 gp_RF_index) 121 gp_RF_many) 135 gp_RF_size) 139 gp_RF_clash) 152 gp_RF_letters) 107 gp_RF_isThing) 161 gp_RF_isAtEnd
theorem kgT1r : gTK 1 gT1r := gTK_u (gTK_u (gTK_u (gTK_u (gTK_u (gTK_u (gTK_u (gTK_0 1) (gEK_mono (by decide) e_RF_index)) (gEK_mono (by decide) e_RF_many)) (gEK_mono (by decide) e_RF_size)) (gEK_mono (by decide) e_RF_clash)) (gEK_mono (by decide) e_RF_letters)) (gEK_mono (by decide) e_RF_isThing)) (gEK_mono (by decide) e_RF_isAtEnd)
theorem gT1r_118 : gT1r 118 = some gp_RF_index := rfl
theorem gT1r_121 : gT1r 121 = some gp_RF_many := rfl
theorem gT1r_135 : gT1r 135 = some gp_RF_size := rfl
theorem gT1r_139 : gT1r 139 = some gp_RF_clash := rfl
theorem gT1r_152 : gT1r 152 = some gp_RF_letters := rfl
theorem gT1r_107 : gT1r 107 = some gp_RF_isThing := rfl
theorem gT1r_161 : gT1r 161 = some gp_RF_isAtEnd := rfl
