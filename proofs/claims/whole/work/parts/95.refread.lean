-- needs 10 11 12 13 14 15 16 17 18 18d 19 21 30 31 40 50 53 60 61 62 65 82 89 94
def wdR (ln : Nat → Int32) (L a : Nat) : Int64 := if (rwL ln (L - a) a 0).2 - a ≤ 8 then (rwL ln (L - a) a 0).1 else -1
def neR (ln : Nat → Int32) (L a : Nat) : Nat := if (rwL ln (L - a) a 0).2 < L then (rwL ln (L - a) a 0).2 + 1 else 61
def badR (L : Nat) (s : RS) : RS := (s.1, nI (if s.1 ≤ L then s.1 else L), s.2.2)
def nxR (ln : Nat → Int32) (L : Nat) (s : RS) : RS := (neR ln L s.1, s.2)
def isR (ln : Nat → Int32) (L : Nat) (w : Int64) (s : RS) : Bool := decide (¬ s.1 = 61 ∧ wdR ln L s.1 = w)
def dgR (ln : Nat → Int32) (L : Nat) (s : RS) : Bool := decide (¬ s.1 = 61 ∧ 48 ≤ wdR ln L s.1 ∧ wdR ln L s.1 ≤ 57)
def muR (ln : Nat → Int32) (L : Nat) (w : Int64) (s : RS) : RS := if s.2.1 = -1 then (if isR ln L w s = true then nxR ln L s else badR L s) else s
def digR (ln : Nat → Int32) (L : Nat) (s : RS) : RS × Int32 := if s.2.1 = -1 then (if dgR ln L s = true then (nxR ln L s, (wdR ln L s.1).toInt32 - 48) else (badR L s, 0)) else (s, 0)
def thQ (ln : Nat → Int32) (L : Nat) (nm : Nat → Int64) (s : RS) (t : Nat) : Bool := decide (¬ s.1 = 61 ∧ ¬ nm t = 0 ∧ wdR ln L s.1 = nm t)
def thL (ln : Nat → Int32) (L : Nat) (nm : Nat → Int64) (s : RS) : Nat → Nat → RS × Int32
  | 0, _ => (badR L s, 0)
  | m + 1, t => if thQ ln L nm s t = true then (nxR ln L s, nI (10 * (t / 5 + 1) + t % 5)) else thL ln L nm s m (t + 1)
def thgR (ln : Nat → Int32) (L : Nat) (nm : Nat → Int64) (s : RS) : RS × Int32 := if s.2.1 = -1 then thL ln L nm s 15 0 else (s, 0)
theorem neR_le (ln : Nat → Int32) (L a : Nat) (hL : L ≤ 60) : neR ln L a ≤ 61 := by
  unfold neR
  split
  · omega
  · exact Nat.le_refl _
theorem fR_19 {s : RS} (lA : Nat) (G : List Value) (G19 : G[19]? = some (.ref lA)) : (fR G s)[19]? = some (.ref lA) := by
  rw [fR_x (by decide) (by decide) (by decide) (by decide) (by decide) (by decide) (by decide) (by decide)]
  exact G19
theorem fR_21 {s : RS} (L : Nat) (G : List Value) (G21 : G[21]? = some (.int (nI L))) : (fR G s)[21]? = some (.int (nI L)) := by
  rw [fR_x (by decide) (by decide) (by decide) (by decide) (by decide) (by decide) (by decide) (by decide)]
  exact G21
theorem fR_17 {s : RS} (nA : Nat) (G : List Value) (G17 : G[17]? = some (.ref nA)) : (fR G s)[17]? = some (.ref nA) := by
  rw [fR_x (by decide) (by decide) (by decide) (by decide) (by decide) (by decide) (by decide) (by decide)]
  exact G17
set_option maxRecDepth 100000 in
set_option maxHeartbeats 2000000 in
theorem c_RF_word (l : Launch) (g : gG) (cB : ClassId) (hcB : (cB, FieldType.byte) ∈ g.2.1) (o lA L : Nat) (hL : L ≤ 60) (ln : Nat → Int32) (G : List Value) (hlen : G.length = 33) (G19 : G[19]? = some (.ref lA)) (G21 : G[21]? = some (.int (nI L))) (s : RS) (hs : s.1 ≤ 61) (h : gH) (ho : h o = some (.inr (6, fR G s))) (hl : h lA = some (.inl (cB, 60, .inl ln))) : gC l g mRF_word (gr 0) [.ref o] h (fun r h' => r = some (.long (wdR ln L s.1)) ∧ h' = h) := by
  have F19 := fR_19 (s := s) lA G G19
  have F21 := fR_21 (s := s) L G G21
  have F23 := fR_g23 (s := s) hlen
  obtain ⟨T, hT⟩ : ∃ T, T = rwL ln (L - s.1) s.1 0 := ⟨_, rfl⟩
  have hTb := rwL_le ln (L - s.1) s.1 0
  rw [← hT] at hTb
  have hW : wdR ln L s.1 = if T.2 - s.1 ≤ 8 then T.1 else -1 := by rw [hT]; rfl
  rw [hW]
  have out : ∀ k : Nat, k = T.2 → gw l g mRF_word (gr 0) h (gZm g h 0 0 (fun r h' => r = some (.long (if T.2 - s.1 ≤ 8 then T.1 else -1)) ∧ h' = h)) 0 0 54 [some (.ref o), some (.long T.1), none, some (.int (nI (k - s.1))), none] [] h := by
    intro k hk
    rw [hk]
    by_cases h1 : T.2 - s.1 ≤ 8
    · have e1 : nI (T.2 - s.1) ≤ 8 := nI_le (b := 8) h1 (by omega)
      rw [if_pos h1]
      refine gw_ev (T := gT0) 60 [] gRt_m (gTO_0 _ _ _ ⟨Nat.le_refl _, Nat.le_refl _⟩) ?_
      simp only [vc_i, vc_l, vc_r, vc_n, Nat.succ_ne_self, gSd_s, gEd_s, gEd_0, gEd_B, gB_t, gB_f, gGo_c, gGo_n, gAll_n, gAll_c, gwK_s, gCT, gCF, gSet, gSet2, gKill, gTw, gTs, gLs, List.map_cons, List.map_nil, fv0, fv1, fv2, fv3, List.getElem?_cons_zero, List.getElem?_cons_succ, List.set_cons_zero, List.set_cons_succ, List.not_mem_nil, List.mem_cons, Option.toList_some, Option.toList_none, List.cons_append, List.nil_append, if_false, if_true, true_and, and_true, forall_const, true_implies, false_implies, or_false, false_or, not_true_eq_false, not_false_eq_true, and_false, false_and, implies_true, Nat.reduceAdd, Nat.reduceEqDiff, Nat.reduceLT, ↓reduceIte, cls_RF_word, st_lconst, st_lstore_n, st_iconst, st_istore_n, st_aload_n, st_getfield, st_istore, st_iload, st_if_icmp, st_baload, st_bipush, st_lload_n, st_lshl, st_i2l, st_lor, st_iinc, st_goto, st_iload_n, st_ldc2_w, st_lreturn, (show mRF_word.2.2.1 = 5 from rfl), gF_RF_270, gF_RF_267, gF_RF_75, kl_RF_273, dRF_word_0, lc_0, dRF_word_1, dRF_word_2, ic_0, dRF_word_3, dRF_word_4, dRF_word_5, dRF_word_8, dRF_word_10, dRF_word_12, dRF_word_13, dRF_word_16, tg_16_38, tz_16_38, dRF_word_19, dRF_word_20, dRF_word_23, dRF_word_25, dRF_word_26, bi_32, dRF_word_28, tg_28_26, tz_28_26, dRF_word_31, dRF_word_32, bi_8, dRF_word_34, dRF_word_35, dRF_word_36, dRF_word_39, dRF_word_41, dRF_word_42, dRF_word_43, dRF_word_44, dRF_word_45, ic_1, dRF_word_48, dRF_word_51, tg_51_m41, tz_51_m41, dRF_word_54, dRF_word_55, dRF_word_57, tg_57_9, tz_57_9, dRF_word_60, dRF_word_63, tg_63_4, tz_63_4, dRF_word_66, dRF_word_67, e1]
      exact rfl
    · have e1 : ¬ nI (T.2 - s.1) ≤ 8 := nI_ge (a := 8) (by omega) (by omega)
      rw [if_neg h1]
      refine gw_ev (T := gT0) 60 [] gRt_m (gTO_0 _ _ _ ⟨Nat.le_refl _, Nat.le_refl _⟩) ?_
      simp only [vc_i, vc_l, vc_r, vc_n, Nat.succ_ne_self, gSd_s, gEd_s, gEd_0, gEd_B, gB_t, gB_f, gGo_c, gGo_n, gAll_n, gAll_c, gwK_s, gCT, gCF, gSet, gSet2, gKill, gTw, gTs, gLs, List.map_cons, List.map_nil, fv0, fv1, fv2, fv3, List.getElem?_cons_zero, List.getElem?_cons_succ, List.set_cons_zero, List.set_cons_succ, List.not_mem_nil, List.mem_cons, Option.toList_some, Option.toList_none, List.cons_append, List.nil_append, if_false, if_true, true_and, and_true, forall_const, true_implies, false_implies, or_false, false_or, not_true_eq_false, not_false_eq_true, and_false, false_and, implies_true, Nat.reduceAdd, Nat.reduceEqDiff, Nat.reduceLT, ↓reduceIte, cls_RF_word, st_lconst, st_lstore_n, st_iconst, st_istore_n, st_aload_n, st_getfield, st_istore, st_iload, st_if_icmp, st_baload, st_bipush, st_lload_n, st_lshl, st_i2l, st_lor, st_iinc, st_goto, st_iload_n, st_ldc2_w, st_lreturn, (show mRF_word.2.2.1 = 5 from rfl), gF_RF_270, gF_RF_267, gF_RF_75, kl_RF_273, dRF_word_0, lc_0, dRF_word_1, dRF_word_2, ic_0, dRF_word_3, dRF_word_4, dRF_word_5, dRF_word_8, dRF_word_10, dRF_word_12, dRF_word_13, dRF_word_16, tg_16_38, tz_16_38, dRF_word_19, dRF_word_20, dRF_word_23, dRF_word_25, dRF_word_26, bi_32, dRF_word_28, tg_28_26, tz_28_26, dRF_word_31, dRF_word_32, bi_8, dRF_word_34, dRF_word_35, dRF_word_36, dRF_word_39, dRF_word_41, dRF_word_42, dRF_word_43, dRF_word_44, dRF_word_45, ic_1, dRF_word_48, dRF_word_51, tg_51_m41, tz_51_m41, dRF_word_54, dRF_word_55, dRF_word_57, tg_57_9, tz_57_9, dRF_word_60, dRF_word_63, tg_63_4, tz_63_4, dRF_word_66, dRF_word_67, e1]
      exact rfl
  have loop : ∀ (m k : Nat) (v : Int64), s.1 ≤ k → (L ≤ s.1 → m = 0) → (s.1 ≤ L → k + m = L) → rwL ln m k v = T → gw l g mRF_word (gr 0) h (gZm g h 0 0 (fun r h' => r = some (.long (if T.2 - s.1 ≤ 8 then T.1 else -1)) ∧ h' = h)) 0 0 10 [some (.ref o), some (.long v), none, some (.int (nI (k - s.1))), some (.int (nI k))] [] h := by
    intro m
    induction m with
    | zero =>
      intro k v hk h1 h2 hb
      have hk2 : k = T.2 := by rw [← hb]; rfl
      have hv : v = T.1 := by rw [← hb]; rfl
      have hl2 : nI L ≤ nI k := nI_le (by omega) (by omega)
      have h9 := out k hk2
      rw [← hv] at h9
      rw [← hv]
      refine gw_ev (T := gT0) 60 [54] gRt_m (gTO_0 _ _ _ ⟨Nat.le_refl _, Nat.le_refl _⟩) ?_
      simp only [vc_i, vc_l, vc_r, vc_n, Nat.succ_ne_self, gSd_s, gEd_s, gEd_0, gEd_B, gB_t, gB_f, gGo_c, gGo_n, gAll_n, gAll_c, gwK_s, gCT, gCF, gSet, gSet2, gKill, gTw, gTs, gLs, List.map_cons, List.map_nil, fv0, fv1, fv2, fv3, List.getElem?_cons_zero, List.getElem?_cons_succ, List.set_cons_zero, List.set_cons_succ, List.not_mem_nil, List.mem_cons, Option.toList_some, Option.toList_none, List.cons_append, List.nil_append, if_false, if_true, true_and, and_true, forall_const, true_implies, false_implies, or_false, false_or, not_true_eq_false, not_false_eq_true, and_false, false_and, implies_true, Nat.reduceAdd, Nat.reduceEqDiff, Nat.reduceLT, ↓reduceIte, cls_RF_word, st_lconst, st_lstore_n, st_iconst, st_istore_n, st_aload_n, st_getfield, st_istore, st_iload, st_if_icmp, st_baload, st_bipush, st_lload_n, st_lshl, st_i2l, st_lor, st_iinc, st_goto, st_iload_n, st_ldc2_w, st_lreturn, (show mRF_word.2.2.1 = 5 from rfl), gF_RF_270, gF_RF_267, gF_RF_75, kl_RF_273, dRF_word_0, lc_0, dRF_word_1, dRF_word_2, ic_0, dRF_word_3, dRF_word_4, dRF_word_5, dRF_word_8, dRF_word_10, dRF_word_12, dRF_word_13, dRF_word_16, tg_16_38, tz_16_38, dRF_word_19, dRF_word_20, dRF_word_23, dRF_word_25, dRF_word_26, bi_32, dRF_word_28, tg_28_26, tz_28_26, dRF_word_31, dRF_word_32, bi_8, dRF_word_34, dRF_word_35, dRF_word_36, dRF_word_39, dRF_word_41, dRF_word_42, dRF_word_43, dRF_word_44, dRF_word_45, ic_1, dRF_word_48, dRF_word_51, tg_51_m41, tz_51_m41, dRF_word_54, dRF_word_55, dRF_word_57, tg_57_9, tz_57_9, dRF_word_60, dRF_word_63, tg_63_4, tz_63_4, dRF_word_66, dRF_word_67, ho, F21, hl2]
      exact gw_less (by simp [gLe]) h9
    | succ m ih =>
      intro k v hk h1 h2 hb
      have hsl : s.1 ≤ L := by
        by_cases q : s.1 ≤ L
        · exact q
        · have := h1 (by omega); omega
      have hkm := h2 hsl
      have hl2 : ¬ nI L ≤ nI k := nI_ge (by omega) (by omega)
      have ck : (nI k).toNatClampNeg = k := nI_clamp (by omega)
      have vk : vp_in (nI k) 60 := vp_in_nI (by omega) (by omega)
      unfold rwL at hb
      by_cases h3 : ln k = 32
      · have e3 : (ln k = 32) = True := eq_true h3
        rw [if_pos h3] at hb
        have hk2 : k = T.2 := by rw [← hb]
        have hv : v = T.1 := by rw [← hb]
        have h9 := out k hk2
        rw [← hv] at h9
        rw [← hv]
        refine gw_ev (T := gT0) 60 [54] gRt_m (gTO_0 _ _ _ ⟨Nat.le_refl _, Nat.le_refl _⟩) ?_
        simp only [vc_i, vc_l, vc_r, vc_n, Nat.succ_ne_self, gSd_s, gEd_s, gEd_0, gEd_B, gB_t, gB_f, gGo_c, gGo_n, gAll_n, gAll_c, gwK_s, gCT, gCF, gSet, gSet2, gKill, gTw, gTs, gLs, List.map_cons, List.map_nil, fv0, fv1, fv2, fv3, List.getElem?_cons_zero, List.getElem?_cons_succ, List.set_cons_zero, List.set_cons_succ, List.not_mem_nil, List.mem_cons, Option.toList_some, Option.toList_none, List.cons_append, List.nil_append, if_false, if_true, true_and, and_true, forall_const, true_implies, false_implies, or_false, false_or, not_true_eq_false, not_false_eq_true, and_false, false_and, implies_true, Nat.reduceAdd, Nat.reduceEqDiff, Nat.reduceLT, ↓reduceIte, cls_RF_word, st_lconst, st_lstore_n, st_iconst, st_istore_n, st_aload_n, st_getfield, st_istore, st_iload, st_if_icmp, st_baload, st_bipush, st_lload_n, st_lshl, st_i2l, st_lor, st_iinc, st_goto, st_iload_n, st_ldc2_w, st_lreturn, (show mRF_word.2.2.1 = 5 from rfl), gF_RF_270, gF_RF_267, gF_RF_75, kl_RF_273, dRF_word_0, lc_0, dRF_word_1, dRF_word_2, ic_0, dRF_word_3, dRF_word_4, dRF_word_5, dRF_word_8, dRF_word_10, dRF_word_12, dRF_word_13, dRF_word_16, tg_16_38, tz_16_38, dRF_word_19, dRF_word_20, dRF_word_23, dRF_word_25, dRF_word_26, bi_32, dRF_word_28, tg_28_26, tz_28_26, dRF_word_31, dRF_word_32, bi_8, dRF_word_34, dRF_word_35, dRF_word_36, dRF_word_39, dRF_word_41, dRF_word_42, dRF_word_43, dRF_word_44, dRF_word_45, ic_1, dRF_word_48, dRF_word_51, tg_51_m41, tz_51_m41, dRF_word_54, dRF_word_55, dRF_word_57, tg_57_9, tz_57_9, dRF_word_60, dRF_word_63, tg_63_4, tz_63_4, dRF_word_66, dRF_word_67, ho, F21, hl2, F19, hl, ck, e3]
        exact ⟨⟨hcB, vk⟩, gw_less (by simp [gLe]) h9⟩
      · rw [if_neg h3] at hb
        have h9 := ih (k + 1) (shl8 v (ln k)) (by omega) (fun q => by have := h1 q; omega) (fun q => by omega) hb
        have ek : k + 1 - s.1 = k - s.1 + 1 := by omega
        rw [ek] at h9
        refine gw_ev (T := gT0) 60 [10] gRt_m (gTO_0 _ _ _ ⟨Nat.le_refl _, Nat.le_refl _⟩) ?_
        simp only [vc_i, vc_l, vc_r, vc_n, Nat.succ_ne_self, gSd_s, gEd_s, gEd_0, gEd_B, gB_t, gB_f, gGo_c, gGo_n, gAll_n, gAll_c, gwK_s, gCT, gCF, gSet, gSet2, gKill, gTw, gTs, gLs, List.map_cons, List.map_nil, fv0, fv1, fv2, fv3, List.getElem?_cons_zero, List.getElem?_cons_succ, List.set_cons_zero, List.set_cons_succ, List.not_mem_nil, List.mem_cons, Option.toList_some, Option.toList_none, List.cons_append, List.nil_append, if_false, if_true, true_and, and_true, forall_const, true_implies, false_implies, or_false, false_or, not_true_eq_false, not_false_eq_true, and_false, false_and, implies_true, Nat.reduceAdd, Nat.reduceEqDiff, Nat.reduceLT, ↓reduceIte, cls_RF_word, st_lconst, st_lstore_n, st_iconst, st_istore_n, st_aload_n, st_getfield, st_istore, st_iload, st_if_icmp, st_baload, st_bipush, st_lload_n, st_lshl, st_i2l, st_lor, st_iinc, st_goto, st_iload_n, st_ldc2_w, st_lreturn, (show mRF_word.2.2.1 = 5 from rfl), gF_RF_270, gF_RF_267, gF_RF_75, kl_RF_273, dRF_word_0, lc_0, dRF_word_1, dRF_word_2, ic_0, dRF_word_3, dRF_word_4, dRF_word_5, dRF_word_8, dRF_word_10, dRF_word_12, dRF_word_13, dRF_word_16, tg_16_38, tz_16_38, dRF_word_19, dRF_word_20, dRF_word_23, dRF_word_25, dRF_word_26, bi_32, dRF_word_28, tg_28_26, tz_28_26, dRF_word_31, dRF_word_32, bi_8, dRF_word_34, dRF_word_35, dRF_word_36, dRF_word_39, dRF_word_41, dRF_word_42, dRF_word_43, dRF_word_44, dRF_word_45, ic_1, dRF_word_48, dRF_word_51, tg_51_m41, tz_51_m41, dRF_word_54, dRF_word_55, dRF_word_57, tg_57_9, tz_57_9, dRF_word_60, dRF_word_63, tg_63_4, tz_63_4, dRF_word_66, dRF_word_67, ho, F21, hl2, F19, hl, ck, h3, nI_1]
        exact ⟨⟨hcB, vk⟩, ⟨hcB, vk⟩, h9⟩
  have h9 := loop (L - s.1) s.1 0 (Nat.le_refl _) (fun q => by omega) (fun q => by omega) hT.symm
  clear loop out
  rw [Nat.sub_self, nI_0] at h9
  refine gC_of (lv0 := [some (.ref o), none, none, none, none]) (by decide +kernel) (Nat.le_of_ble_eq_true rfl) (fun q hq => hq) ⟨rfl, rfl⟩ ?_
  refine gw_ev (T := gT0) 60 [10] gRt_m (gTO_0 _ _ _ ⟨Nat.le_refl _, Nat.le_refl _⟩) ?_
  simp only [vc_i, vc_l, vc_r, vc_n, Nat.succ_ne_self, gSd_s, gEd_s, gEd_0, gEd_B, gB_t, gB_f, gGo_c, gGo_n, gAll_n, gAll_c, gwK_s, gCT, gCF, gSet, gSet2, gKill, gTw, gTs, gLs, List.map_cons, List.map_nil, fv0, fv1, fv2, fv3, List.getElem?_cons_zero, List.getElem?_cons_succ, List.set_cons_zero, List.set_cons_succ, List.not_mem_nil, List.mem_cons, Option.toList_some, Option.toList_none, List.cons_append, List.nil_append, if_false, if_true, true_and, and_true, forall_const, true_implies, false_implies, or_false, false_or, not_true_eq_false, not_false_eq_true, and_false, false_and, implies_true, Nat.reduceAdd, Nat.reduceEqDiff, Nat.reduceLT, ↓reduceIte, cls_RF_word, st_lconst, st_lstore_n, st_iconst, st_istore_n, st_aload_n, st_getfield, st_istore, st_iload, st_if_icmp, st_baload, st_bipush, st_lload_n, st_lshl, st_i2l, st_lor, st_iinc, st_goto, st_iload_n, st_ldc2_w, st_lreturn, (show mRF_word.2.2.1 = 5 from rfl), gF_RF_270, gF_RF_267, gF_RF_75, kl_RF_273, dRF_word_0, lc_0, dRF_word_1, dRF_word_2, ic_0, dRF_word_3, dRF_word_4, dRF_word_5, dRF_word_8, dRF_word_10, dRF_word_12, dRF_word_13, dRF_word_16, tg_16_38, tz_16_38, dRF_word_19, dRF_word_20, dRF_word_23, dRF_word_25, dRF_word_26, bi_32, dRF_word_28, tg_28_26, tz_28_26, dRF_word_31, dRF_word_32, bi_8, dRF_word_34, dRF_word_35, dRF_word_36, dRF_word_39, dRF_word_41, dRF_word_42, dRF_word_43, dRF_word_44, dRF_word_45, ic_1, dRF_word_48, dRF_word_51, tg_51_m41, tz_51_m41, dRF_word_54, dRF_word_55, dRF_word_57, tg_57_9, tz_57_9, dRF_word_60, dRF_word_63, tg_63_4, tz_63_4, dRF_word_66, dRF_word_67, ho, F23]
  exact h9
set_option maxRecDepth 100000 in
set_option maxHeartbeats 2000000 in
theorem c_RF_next (l : Launch) (g : gG) (cB : ClassId) (hcB : (cB, FieldType.byte) ∈ g.2.1) (o lA L : Nat) (hL : L ≤ 60) (ln : Nat → Int32) (G : List Value) (hlen : G.length = 33) (G19 : G[19]? = some (.ref lA)) (G21 : G[21]? = some (.int (nI L))) (s : RS) (hs : s.1 ≤ L) (h : gH) (ho : h o = some (.inr (6, fR G s))) (hl : h lA = some (.inl (cB, 60, .inl ln))) (x1 : lA ≠ o) : gC l g mRF_next (gr 0) [.ref o] h (fun r h' => r = none ∧ h' = gup h o (.inr (6, fR G (nxR ln L s)))) := by
  obtain ⟨T, hT⟩ : ∃ T, T = rwL ln (L - s.1) s.1 0 := ⟨_, rfl⟩
  have hTb := rwL_le ln (L - s.1) s.1 0
  rw [← hT] at hTb
  have hN : nxR ln L s = (if T.2 < L then T.2 + 1 else 61, s.2) := by rw [hT]; rfl
  rw [hN]
  have out : gw l g mRF_next (gr 0) h (gZm g h 0 0 (fun r h' => r = none ∧ h' = gup h o (.inr (6, fR G (if T.2 < L then T.2 + 1 else 61, s.2))))) 0 0 38 [some (.ref o)] [] (gup h o (.inr (6, fR G (T.2, s.2)))) := by
    have F21 := fR_21 (s := (T.2, s.2)) L G G21
    have F23 := fR_g23 (s := (T.2, s.2)) hlen
    have Fl := fR_len (s := (T.2, s.2)) hlen
    have e61 : (fR G (T.2, s.2)).set 23 (.int 61) = fR G (61, s.2) := fR_s23 61
    have es : (fR G (T.2, s.2)).set 23 (.int (nI (T.2 + 1))) = fR G (T.2 + 1, s.2) := fR_s23 (T.2 + 1)
    by_cases h1 : T.2 < L
    · have e1 : ¬ nI L ≤ nI T.2 := nI_ge h1 (by omega)
      rw [if_pos h1]
      refine gw_ev (T := gT0) 60 [] gRt_m (gTO_0 _ _ _ ⟨Nat.le_refl _, Nat.le_refl _⟩) ?_
      simp only [vc_i, vc_l, vc_r, vc_n, Nat.succ_ne_self, gSd_s, gEd_s, gEd_0, gEd_B, gB_t, gB_f, gGo_c, gGo_n, gAll_n, gAll_c, gwK_s, gCT, gCF, gSet, gSet2, gKill, gTw, gTs, gLs, List.map_cons, List.map_nil, fv0, fv1, fv2, fv3, List.getElem?_cons_zero, List.getElem?_cons_succ, List.set_cons_zero, List.set_cons_succ, List.not_mem_nil, List.mem_cons, Option.toList_some, Option.toList_none, List.cons_append, List.nil_append, if_false, if_true, true_and, and_true, forall_const, true_implies, false_implies, or_false, false_or, not_true_eq_false, not_false_eq_true, and_false, false_and, implies_true, Nat.reduceAdd, Nat.reduceEqDiff, Nat.reduceLT, ↓reduceIte, cls_RF_next, st_aload_n, st_getfield, st_if_icmp, st_baload, st_bipush, st_dup, st_iconst, st_iadd, st_putfield, st_goto, st_return_, (show mRF_next.2.2.1 = 1 from rfl), gF_RF_270, gF_RF_267, gF_RF_75, fp_RF_next_270, dRF_next_0, dRF_next_1, dRF_next_4, dRF_next_5, dRF_next_8, tg_8_30, tz_8_30, dRF_next_11, dRF_next_12, dRF_next_15, dRF_next_16, dRF_next_19, dRF_next_20, bi_32, dRF_next_22, tg_22_16, tz_22_16, dRF_next_25, dRF_next_26, dRF_next_27, dRF_next_30, ic_1, dRF_next_31, dRF_next_32, dRF_next_35, tg_35_m35, tz_35_m35, dRF_next_38, dRF_next_39, dRF_next_42, dRF_next_43, dRF_next_46, tg_46_16, tz_46_16, dRF_next_49, dRF_next_50, dRF_next_51, dRF_next_54, dRF_next_55, dRF_next_56, dRF_next_59, tg_59_9, tz_59_9, dRF_next_62, dRF_next_63, bi_61, dRF_next_65, dRF_next_68, gup_s, gup_up, F21, F23, Fl, e1, nI_1, es]
      exact ⟨fit_i _, rfl⟩
    · have e1 : nI L ≤ nI T.2 := nI_le (by omega) (by omega)
      rw [if_neg h1]
      refine gw_ev (T := gT0) 60 [] gRt_m (gTO_0 _ _ _ ⟨Nat.le_refl _, Nat.le_refl _⟩) ?_
      simp only [vc_i, vc_l, vc_r, vc_n, Nat.succ_ne_self, gSd_s, gEd_s, gEd_0, gEd_B, gB_t, gB_f, gGo_c, gGo_n, gAll_n, gAll_c, gwK_s, gCT, gCF, gSet, gSet2, gKill, gTw, gTs, gLs, List.map_cons, List.map_nil, fv0, fv1, fv2, fv3, List.getElem?_cons_zero, List.getElem?_cons_succ, List.set_cons_zero, List.set_cons_succ, List.not_mem_nil, List.mem_cons, Option.toList_some, Option.toList_none, List.cons_append, List.nil_append, if_false, if_true, true_and, and_true, forall_const, true_implies, false_implies, or_false, false_or, not_true_eq_false, not_false_eq_true, and_false, false_and, implies_true, Nat.reduceAdd, Nat.reduceEqDiff, Nat.reduceLT, ↓reduceIte, cls_RF_next, st_aload_n, st_getfield, st_if_icmp, st_baload, st_bipush, st_dup, st_iconst, st_iadd, st_putfield, st_goto, st_return_, (show mRF_next.2.2.1 = 1 from rfl), gF_RF_270, gF_RF_267, gF_RF_75, fp_RF_next_270, dRF_next_0, dRF_next_1, dRF_next_4, dRF_next_5, dRF_next_8, tg_8_30, tz_8_30, dRF_next_11, dRF_next_12, dRF_next_15, dRF_next_16, dRF_next_19, dRF_next_20, bi_32, dRF_next_22, tg_22_16, tz_22_16, dRF_next_25, dRF_next_26, dRF_next_27, dRF_next_30, ic_1, dRF_next_31, dRF_next_32, dRF_next_35, tg_35_m35, tz_35_m35, dRF_next_38, dRF_next_39, dRF_next_42, dRF_next_43, dRF_next_46, tg_46_16, tz_46_16, dRF_next_49, dRF_next_50, dRF_next_51, dRF_next_54, dRF_next_55, dRF_next_56, dRF_next_59, tg_59_9, tz_59_9, dRF_next_62, dRF_next_63, bi_61, dRF_next_65, dRF_next_68, gup_s, gup_up, F21, F23, Fl, e1, e61]
      exact ⟨fit_i _, rfl⟩
  have loop : ∀ (m k : Nat) (v : Int64), k + m = L → rwL ln m k v = (v, T.2) ∨ (rwL ln m k v).2 = T.2 → gw l g mRF_next (gr 0) h (gZm g h 0 0 (fun r h' => r = none ∧ h' = gup h o (.inr (6, fR G (if T.2 < L then T.2 + 1 else 61, s.2))))) 0 0 0 [some (.ref o)] [] (gup h o (.inr (6, fR G (k, s.2)))) := by
    intro m
    induction m with
    | zero =>
      intro k v hk hb
      have F21 := fR_21 (s := (k, s.2)) L G G21
      have F23 := fR_g23 (s := (k, s.2)) hlen
      have hk2 : k = T.2 := by
        rcases hb with q | q
        · have : (rwL ln 0 k v).2 = T.2 := by rw [q]
          exact this
        · exact q
      have hl2 : nI L ≤ nI k := nI_le (by omega) (by omega)
      rw [← hk2] at out ⊢
      refine gw_ev (T := gT0) 60 [38] gRt_m (gTO_0 _ _ _ ⟨Nat.le_refl _, Nat.le_refl _⟩) ?_
      simp only [vc_i, vc_l, vc_r, vc_n, Nat.succ_ne_self, gSd_s, gEd_s, gEd_0, gEd_B, gB_t, gB_f, gGo_c, gGo_n, gAll_n, gAll_c, gwK_s, gCT, gCF, gSet, gSet2, gKill, gTw, gTs, gLs, List.map_cons, List.map_nil, fv0, fv1, fv2, fv3, List.getElem?_cons_zero, List.getElem?_cons_succ, List.set_cons_zero, List.set_cons_succ, List.not_mem_nil, List.mem_cons, Option.toList_some, Option.toList_none, List.cons_append, List.nil_append, if_false, if_true, true_and, and_true, forall_const, true_implies, false_implies, or_false, false_or, not_true_eq_false, not_false_eq_true, and_false, false_and, implies_true, Nat.reduceAdd, Nat.reduceEqDiff, Nat.reduceLT, ↓reduceIte, cls_RF_next, st_aload_n, st_getfield, st_if_icmp, st_baload, st_bipush, st_dup, st_iconst, st_iadd, st_putfield, st_goto, st_return_, (show mRF_next.2.2.1 = 1 from rfl), gF_RF_270, gF_RF_267, gF_RF_75, fp_RF_next_270, dRF_next_0, dRF_next_1, dRF_next_4, dRF_next_5, dRF_next_8, tg_8_30, tz_8_30, dRF_next_11, dRF_next_12, dRF_next_15, dRF_next_16, dRF_next_19, dRF_next_20, bi_32, dRF_next_22, tg_22_16, tz_22_16, dRF_next_25, dRF_next_26, dRF_next_27, dRF_next_30, ic_1, dRF_next_31, dRF_next_32, dRF_next_35, tg_35_m35, tz_35_m35, dRF_next_38, dRF_next_39, dRF_next_42, dRF_next_43, dRF_next_46, tg_46_16, tz_46_16, dRF_next_49, dRF_next_50, dRF_next_51, dRF_next_54, dRF_next_55, dRF_next_56, dRF_next_59, tg_59_9, tz_59_9, dRF_next_62, dRF_next_63, bi_61, dRF_next_65, dRF_next_68, gup_s, F21, F23, hl2]
      exact out
    | succ m ih =>
      intro k v hk hb
      have F19 := fR_19 (s := (k, s.2)) lA G G19
      have F21 := fR_21 (s := (k, s.2)) L G G21
      have F23 := fR_g23 (s := (k, s.2)) hlen
      have Fl := fR_len (s := (k, s.2)) hlen
      have es : (fR G (k, s.2)).set 23 (.int (nI (k + 1))) = fR G (k + 1, s.2) := fR_s23 (k + 1)
      have hl2 : ¬ nI L ≤ nI k := nI_ge (by omega) (by omega)
      have ck : (nI k).toNatClampNeg = k := nI_clamp (by omega)
      have vk : vp_in (nI k) 60 := vp_in_nI (by omega) (by omega)
      have hb2 : (rwL ln (m + 1) k v).2 = T.2 := by
        rcases hb with q | q
        · rw [q]
        · exact q
      unfold rwL at hb2
      by_cases h3 : ln k = 32
      · have e3 : (ln k = 32) = True := eq_true h3
        rw [if_pos h3] at hb2
        have hk2 : k = T.2 := hb2
        rw [← hk2] at out ⊢
        refine gw_ev (T := gT0) 60 [38] gRt_m (gTO_0 _ _ _ ⟨Nat.le_refl _, Nat.le_refl _⟩) ?_
        simp only [vc_i, vc_l, vc_r, vc_n, Nat.succ_ne_self, gSd_s, gEd_s, gEd_0, gEd_B, gB_t, gB_f, gGo_c, gGo_n, gAll_n, gAll_c, gwK_s, gCT, gCF, gSet, gSet2, gKill, gTw, gTs, gLs, List.map_cons, List.map_nil, fv0, fv1, fv2, fv3, List.getElem?_cons_zero, List.getElem?_cons_succ, List.set_cons_zero, List.set_cons_succ, List.not_mem_nil, List.mem_cons, Option.toList_some, Option.toList_none, List.cons_append, List.nil_append, if_false, if_true, true_and, and_true, forall_const, true_implies, false_implies, or_false, false_or, not_true_eq_false, not_false_eq_true, and_false, false_and, implies_true, Nat.reduceAdd, Nat.reduceEqDiff, Nat.reduceLT, ↓reduceIte, cls_RF_next, st_aload_n, st_getfield, st_if_icmp, st_baload, st_bipush, st_dup, st_iconst, st_iadd, st_putfield, st_goto, st_return_, (show mRF_next.2.2.1 = 1 from rfl), gF_RF_270, gF_RF_267, gF_RF_75, fp_RF_next_270, dRF_next_0, dRF_next_1, dRF_next_4, dRF_next_5, dRF_next_8, tg_8_30, tz_8_30, dRF_next_11, dRF_next_12, dRF_next_15, dRF_next_16, dRF_next_19, dRF_next_20, bi_32, dRF_next_22, tg_22_16, tz_22_16, dRF_next_25, dRF_next_26, dRF_next_27, dRF_next_30, ic_1, dRF_next_31, dRF_next_32, dRF_next_35, tg_35_m35, tz_35_m35, dRF_next_38, dRF_next_39, dRF_next_42, dRF_next_43, dRF_next_46, tg_46_16, tz_46_16, dRF_next_49, dRF_next_50, dRF_next_51, dRF_next_54, dRF_next_55, dRF_next_56, dRF_next_59, tg_59_9, tz_59_9, dRF_next_62, dRF_next_63, bi_61, dRF_next_65, dRF_next_68, gup_s, gup_n _ _ x1, F19, F21, F23, hl2, hl, ck, e3]
        exact ⟨⟨hcB, vk⟩, out⟩
      · rw [if_neg h3] at hb2
        have h9 := ih (k + 1) (shl8 v (ln k)) (by omega) (Or.inr hb2)
        refine gw_ev (T := gT0) 60 [0, 38] gRt_m (gTO_0 _ _ _ ⟨Nat.le_refl _, Nat.le_refl _⟩) ?_
        simp only [vc_i, vc_l, vc_r, vc_n, Nat.succ_ne_self, gSd_s, gEd_s, gEd_0, gEd_B, gB_t, gB_f, gGo_c, gGo_n, gAll_n, gAll_c, gwK_s, gCT, gCF, gSet, gSet2, gKill, gTw, gTs, gLs, List.map_cons, List.map_nil, fv0, fv1, fv2, fv3, List.getElem?_cons_zero, List.getElem?_cons_succ, List.set_cons_zero, List.set_cons_succ, List.not_mem_nil, List.mem_cons, Option.toList_some, Option.toList_none, List.cons_append, List.nil_append, if_false, if_true, true_and, and_true, forall_const, true_implies, false_implies, or_false, false_or, not_true_eq_false, not_false_eq_true, and_false, false_and, implies_true, Nat.reduceAdd, Nat.reduceEqDiff, Nat.reduceLT, ↓reduceIte, cls_RF_next, st_aload_n, st_getfield, st_if_icmp, st_baload, st_bipush, st_dup, st_iconst, st_iadd, st_putfield, st_goto, st_return_, (show mRF_next.2.2.1 = 1 from rfl), gF_RF_270, gF_RF_267, gF_RF_75, fp_RF_next_270, dRF_next_0, dRF_next_1, dRF_next_4, dRF_next_5, dRF_next_8, tg_8_30, tz_8_30, dRF_next_11, dRF_next_12, dRF_next_15, dRF_next_16, dRF_next_19, dRF_next_20, bi_32, dRF_next_22, tg_22_16, tz_22_16, dRF_next_25, dRF_next_26, dRF_next_27, dRF_next_30, ic_1, dRF_next_31, dRF_next_32, dRF_next_35, tg_35_m35, tz_35_m35, dRF_next_38, dRF_next_39, dRF_next_42, dRF_next_43, dRF_next_46, tg_46_16, tz_46_16, dRF_next_49, dRF_next_50, dRF_next_51, dRF_next_54, dRF_next_55, dRF_next_56, dRF_next_59, tg_59_9, tz_59_9, dRF_next_62, dRF_next_63, bi_61, dRF_next_65, dRF_next_68, gup_s, gup_up, gup_n _ _ x1, F19, F21, F23, Fl, hl2, hl, ck, h3, nI_1, es]
        exact ⟨⟨hcB, vk⟩, fit_i _, h9⟩
  have h9 := loop (L - s.1) s.1 0 (by omega) (Or.inr (by rw [hT]))
  have hid : gup h o (.inr (6, fR G (s.1, s.2))) = h := gup_id ho
  rw [hid] at h9
  exact gC_of (lv0 := [some (.ref o)]) (by decide +kernel) (Nat.le_of_ble_eq_true rfl) (fun q hq => hq) ⟨rfl, rfl⟩ h9
set_option maxRecDepth 100000 in
theorem c_RF_bad (l : Launch) (g : gG) (cB : ClassId) (hcB : (cB, FieldType.byte) ∈ g.2.1) (o lA L : Nat) (hL : L ≤ 60) (ln : Nat → Int32) (G : List Value) (hlen : G.length = 33) (G19 : G[19]? = some (.ref lA)) (G21 : G[21]? = some (.int (nI L))) (s : RS) (hs : s.1 ≤ 61) (h : gH) (ho : h o = some (.inr (6, fR G s))) : gC l g mRF_bad (gr 0) [.ref o] h (fun r h' => r = none ∧ h' = gup h o (.inr (6, fR G (badR L s)))) := by
  have F21 := fR_21 (s := s) L G G21
  have F23 := fR_g23 (s := s) hlen
  have Fl := fR_len (s := s) hlen
  have es : ∀ v : Int32, (fR G s).set 22 (.int v) = fR G (s.1, v, s.2.2) := fun v => fR_s22 v
  refine gC_of (lv0 := [some (.ref o)]) (by decide +kernel) (Nat.le_of_ble_eq_true rfl) (fun q hq => hq) ⟨rfl, rfl⟩ ?_
  unfold badR
  by_cases h1 : s.1 ≤ L
  · have e1 : nI s.1 ≤ nI L := nI_le h1 (by omega)
    rw [if_pos h1]
    refine gw_ev (T := gT0) 60 [] gRt_m (gTO_0 _ _ _ ⟨Nat.le_refl _, Nat.le_refl _⟩) ?_
    simp only [vc_i, vc_l, vc_r, vc_n, Nat.succ_ne_self, gSd_s, gEd_s, gEd_0, gEd_B, gB_t, gB_f, gGo_c, gGo_n, gAll_n, gAll_c, gwK_s, gCT, gCF, gSet, gSet2, gKill, gTw, gTs, gLs, List.map_cons, List.map_nil, fv0, fv1, fv2, fv3, List.getElem?_cons_zero, List.getElem?_cons_succ, List.set_cons_zero, List.set_cons_succ, List.not_mem_nil, List.mem_cons, Option.toList_some, Option.toList_none, List.cons_append, List.nil_append, if_false, if_true, true_and, and_true, forall_const, true_implies, false_implies, or_false, false_or, not_true_eq_false, not_false_eq_true, and_false, false_and, implies_true, Nat.reduceAdd, Nat.reduceEqDiff, Nat.reduceLT, ↓reduceIte, cls_RF_bad, st_aload_n, st_getfield, st_if_icmp, st_goto, st_putfield, st_return_, (show mRF_bad.2.2.1 = 1 from rfl), gF_RF_270, gF_RF_267, fp_RF_bad_78, dRF_bad_0, dRF_bad_1, dRF_bad_2, dRF_bad_5, dRF_bad_6, dRF_bad_9, tg_9_10, tz_9_10, dRF_bad_12, dRF_bad_13, dRF_bad_16, tg_16_7, tz_16_7, dRF_bad_19, dRF_bad_20, dRF_bad_23, dRF_bad_26, ho, F21, F23, Fl, e1, es]
    exact ⟨fit_i _, rfl⟩
  · have e1 : ¬ nI s.1 ≤ nI L := nI_ge (by omega) (by omega)
    rw [if_neg h1]
    refine gw_ev (T := gT0) 60 [] gRt_m (gTO_0 _ _ _ ⟨Nat.le_refl _, Nat.le_refl _⟩) ?_
    simp only [vc_i, vc_l, vc_r, vc_n, Nat.succ_ne_self, gSd_s, gEd_s, gEd_0, gEd_B, gB_t, gB_f, gGo_c, gGo_n, gAll_n, gAll_c, gwK_s, gCT, gCF, gSet, gSet2, gKill, gTw, gTs, gLs, List.map_cons, List.map_nil, fv0, fv1, fv2, fv3, List.getElem?_cons_zero, List.getElem?_cons_succ, List.set_cons_zero, List.set_cons_succ, List.not_mem_nil, List.mem_cons, Option.toList_some, Option.toList_none, List.cons_append, List.nil_append, if_false, if_true, true_and, and_true, forall_const, true_implies, false_implies, or_false, false_or, not_true_eq_false, not_false_eq_true, and_false, false_and, implies_true, Nat.reduceAdd, Nat.reduceEqDiff, Nat.reduceLT, ↓reduceIte, cls_RF_bad, st_aload_n, st_getfield, st_if_icmp, st_goto, st_putfield, st_return_, (show mRF_bad.2.2.1 = 1 from rfl), gF_RF_270, gF_RF_267, fp_RF_bad_78, dRF_bad_0, dRF_bad_1, dRF_bad_2, dRF_bad_5, dRF_bad_6, dRF_bad_9, tg_9_10, tz_9_10, dRF_bad_12, dRF_bad_13, dRF_bad_16, tg_16_7, tz_16_7, dRF_bad_19, dRF_bad_20, dRF_bad_23, dRF_bad_26, ho, F21, F23, Fl, e1, es]
    exact ⟨fit_i _, rfl⟩
