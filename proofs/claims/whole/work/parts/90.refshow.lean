-- needs 10 11 12 13 14 15 16 17 18 18d 19 21 30 31 40 50 53 60 61 62 65
abbrev SH : Type := (Nat → Int32) × Nat
def bvF (w : Int64) (k : Int32) : Int32 := vp_nar .byte ((w >>> (k.toInt64 &&& 63)).toInt32.toInt8.toInt32)
def shP (c : Int32) (s : SH) : SH := (upd s.1 s.2 c, s.2 + 1)
def shBw (w : Int64) : Nat → SH → SH
  | 0, s => s
  | m + 1, s => shBw w m (if byG w (shN (m + 1)) = 0 then s else shP (bvF w (shN (m + 1))) s)
def shB (s : SH) : SH := if s.2 = 0 then s else shP (vp_nar .byte 32) s
def shwF (s : SH) (w : Int64) : SH := shBw w 8 (shB s)
theorem shW_le (w : Int64) : ∀ (m : Nat) (s : SH), s.2 ≤ (shBw w m s).2 ∧ (shBw w m s).2 ≤ s.2 + m := by
  intro m
  induction m with
  | zero => intro s; exact ⟨Nat.le_refl _, Nat.le_refl _⟩
  | succ m ih =>
    intro s
    unfold shBw
    by_cases h : byG w (shN (m + 1)) = 0
    · rw [if_pos h]
      have := ih s
      omega
    · rw [if_neg h]
      have := ih (shP (bvF w (shN (m + 1))) s)
      have q : (shP (bvF w (shN (m + 1))) s).2 = s.2 + 1 := rfl
      omega
theorem shB_le (s : SH) : (shB s).2 ≤ s.2 + 1 := by
  unfold shB
  split
  · omega
  · exact Nat.le_refl _
theorem shwF_le (s : SH) (w : Int64) : (shwF s w).2 ≤ s.2 + 9 := by
  have h1 := shB_le s
  have h2 := (shW_le w 8 (shB s)).2
  unfold shwF
  omega
def hSH (cB : ClassId) (o tA : Nat) (fs : List Value) (s : SH) (h : gH) : gH := gh2 o tA (.inr (6, fs.set 20 (.int (nI s.2)))) (.inl (cB, 80, .inl s.1)) h
set_option maxRecDepth 100000 in
set_option maxHeartbeats 4000000 in
theorem c_RF_show (l : Launch) (g : gG) (cB : ClassId) (hcB : (cB, FieldType.byte) ∈ g.2.1) (o tA : Nat) (w : Int64) (fs : List Value) (hlen : fs.length = 33) (s0 : SH) (hs0 : s0.2 + 9 ≤ 80) (h H0 : gH) (hH0 : H0 = hSH cB o tA fs s0 h) (f18 : fs[18]? = some (.ref tA)) (x1 : o ≠ tA) : gC l g mRF_show (gr 0) [.ref o, .long w] H0 (fun r h' => r = none ∧ h' = hSH cB o tA fs (shwF s0 w) h) := by
  have sF : ∀ (i : Nat) (v : Value), 20 ≠ i → (fs.set 20 v)[i]? = fs[i]? := fun i v q => List.getElem?_set_ne q
  have s20 : ∀ v : Value, (fs.set 20 v)[20]? = some v := fun v => List.getElem?_set_self (by omega)
  have F18 : ∀ v : Value, (fs.set 20 v)[18]? = some (.ref tA) := fun v => by rw [sF 18 _ (by omega)]; exact f18
  have Fl : ∀ v : Value, (fs.set 20 v).length = 33 := fun v => by rw [List.length_set]; exact hlen
  have ss : ∀ v u : Value, (fs.set 20 v).set 20 u = fs.set 20 u := fun v u => List.set_set ..
  have rd : ∀ (s : SH) (H : gH), H = hSH cB o tA fs s h → H o = some (.inr (6, fs.set 20 (.int (nI s.2)))) ∧ H tA = some (.inl (cB, 80, .inl s.1)) := fun s H hH => ⟨by rw [hH]; exact gh2_g0 x1, by rw [hH]; exact gh2_g1 x1⟩
  have put : ∀ (s : SH) (H : gH) (c : Int32), H = hSH cB o tA fs s h → gup (gup H tA (.inl (cB, 80, .inl (upd s.1 s.2 c)))) o (.inr (6, fs.set 20 (.int (nI (s.2 + 1))))) = hSH cB o tA fs (shP c s) h := fun s H c hH => by
    rw [hH]
    unfold hSH
    rw [gh2_p1 x1, gh2_p0 x1]
    rfl
  obtain ⟨T, hT⟩ : ∃ T, T = shwF s0 w := ⟨_, rfl⟩
  rw [← hT]
  have loop : ∀ (m : Nat) (s : SH) (H : gH), m ≤ 8 → s.2 + m ≤ 80 → H = hSH cB o tA fs s h → shBw w m s = T → gw l g mRF_show (gr 0) H0 (gZm g H0 0 0 (fun r h' => r = none ∧ h' = hSH cB o tA fs T h)) 0 0 31 [some (.ref o), some (.long w), none, some (.int (shN m))] [] H := by
    intro m
    induction m with
    | zero =>
      intro s H hm8 hs hH hb
      have hz := shN_0
      have hb2 : s = T := hb
      refine gw_ev (T := gT0) 60 [31] gRt_m (gTO_0 _ _ _ ⟨Nat.le_refl _, Nat.le_refl _⟩) ?_
      simp only [vc_i, vc_l, vc_r, vc_n, Nat.succ_ne_self, gSd_s, gEd_s, gEd_0, gEd_B, gB_t, gB_f, gGo_c, gGo_n, gAll_n, gAll_c, gwK_s, gCT, gCF, gSet, gSet2, gKill, gTw, gTs, gLs, List.map_cons, List.map_nil, fv0, fv1, fv2, fv3, List.getElem?_cons_zero, List.getElem?_cons_succ, List.set_cons_zero, List.set_cons_succ, List.not_mem_nil, List.mem_cons, Option.toList_some, Option.toList_none, List.cons_append, List.nil_append, if_false, if_true, true_and, and_true, forall_const, true_implies, false_implies, or_false, false_or, not_true_eq_false, not_false_eq_true, and_false, false_and, implies_true, Nat.reduceAdd, Nat.reduceEqDiff, Nat.reduceLT, ↓reduceIte, cls_RF_show, st_aload_n, st_getfield, st_ifCond, st_bipush, st_bastore, st_dup, st_iconst, st_iadd, st_putfield, st_istore_n, st_iload_n, st_lload_n, st_lshr, st_ldc2_w, st_land, st_lconst, st_lcmp, st_goto, st_l2i, st_i2b, st_iinc, st_return_, (show mRF_show.2.2.1 = 4 from rfl), gF_RF_250, gF_RF_71, fp_RF_show_250, kl_RF_240, dRF_show_0, dRF_show_1, dRF_show_4, tg_4_24, tz_4_24, dRF_show_7, dRF_show_8, dRF_show_11, dRF_show_12, dRF_show_15, bi_32, dRF_show_17, dRF_show_18, dRF_show_19, dRF_show_20, dRF_show_23, ic_1, dRF_show_24, dRF_show_25, dRF_show_28, bi_56, dRF_show_30, dRF_show_31, dRF_show_32, tg_32_48, tz_32_48, dRF_show_35, dRF_show_36, dRF_show_37, dRF_show_38, dRF_show_41, dRF_show_42, lc_0, dRF_show_43, dRF_show_44, tg_44_6, tz_44_6, dRF_show_47, tg_47_27, tz_47_27, dRF_show_50, dRF_show_51, dRF_show_54, dRF_show_55, dRF_show_58, dRF_show_59, dRF_show_60, dRF_show_61, dRF_show_62, dRF_show_63, dRF_show_64, dRF_show_65, dRF_show_66, dRF_show_69, dRF_show_70, dRF_show_71, dRF_show_74, ic_m8, dRF_show_77, tg_77_m46, tz_77_m46, dRF_show_80, hz]
      exact ⟨rfl, by rw [← hb2]; exact hH⟩
    | succ m ih =>
      intro s H hm8 hs hH hb
      obtain ⟨k0, k1⟩ := rd s H hH
      have hz := shN_ge m (by omega)
      have hg := shN_go m (by omega)
      unfold shBw at hb
      have hbt : (w >>> ((shN (m + 1)).toInt64 &&& 63)) &&& 255 = byG w (shN (m + 1)) := rfl
      have hbv : vp_nar .byte ((w >>> ((shN (m + 1)).toInt64 &&& 63)).toInt32.toInt8.toInt32) = bvF w (shN (m + 1)) := rfl
      generalize byG w (shN (m + 1)) = b at hb hbt
      by_cases h0 : b = 0
      · have e0 : (b = 0) = True := eq_true h0
        rw [if_pos h0] at hb
        have h9 := ih s H (by omega) (by omega) hH hb
        refine gw_ev (T := gT0) 60 [31] gRt_m (gTO_0 _ _ _ ⟨Nat.le_refl _, Nat.le_refl _⟩) ?_
        simp only [vc_i, vc_l, vc_r, vc_n, Nat.succ_ne_self, gSd_s, gEd_s, gEd_0, gEd_B, gB_t, gB_f, gGo_c, gGo_n, gAll_n, gAll_c, gwK_s, gCT, gCF, gSet, gSet2, gKill, gTw, gTs, gLs, List.map_cons, List.map_nil, fv0, fv1, fv2, fv3, List.getElem?_cons_zero, List.getElem?_cons_succ, List.set_cons_zero, List.set_cons_succ, List.not_mem_nil, List.mem_cons, Option.toList_some, Option.toList_none, List.cons_append, List.nil_append, if_false, if_true, true_and, and_true, forall_const, true_implies, false_implies, or_false, false_or, not_true_eq_false, not_false_eq_true, and_false, false_and, implies_true, Nat.reduceAdd, Nat.reduceEqDiff, Nat.reduceLT, ↓reduceIte, cls_RF_show, st_aload_n, st_getfield, st_ifCond, st_bipush, st_bastore, st_dup, st_iconst, st_iadd, st_putfield, st_istore_n, st_iload_n, st_lload_n, st_lshr, st_ldc2_w, st_land, st_lconst, st_lcmp, st_goto, st_l2i, st_i2b, st_iinc, st_return_, (show mRF_show.2.2.1 = 4 from rfl), gF_RF_250, gF_RF_71, fp_RF_show_250, kl_RF_240, dRF_show_0, dRF_show_1, dRF_show_4, tg_4_24, tz_4_24, dRF_show_7, dRF_show_8, dRF_show_11, dRF_show_12, dRF_show_15, bi_32, dRF_show_17, dRF_show_18, dRF_show_19, dRF_show_20, dRF_show_23, ic_1, dRF_show_24, dRF_show_25, dRF_show_28, bi_56, dRF_show_30, dRF_show_31, dRF_show_32, tg_32_48, tz_32_48, dRF_show_35, dRF_show_36, dRF_show_37, dRF_show_38, dRF_show_41, dRF_show_42, lc_0, dRF_show_43, dRF_show_44, tg_44_6, tz_44_6, dRF_show_47, tg_47_27, tz_47_27, dRF_show_50, dRF_show_51, dRF_show_54, dRF_show_55, dRF_show_58, dRF_show_59, dRF_show_60, dRF_show_61, dRF_show_62, dRF_show_63, dRF_show_64, dRF_show_65, dRF_show_66, dRF_show_69, dRF_show_70, dRF_show_71, dRF_show_74, ic_m8, dRF_show_77, tg_77_m46, tz_77_m46, dRF_show_80, hz, hg, hbt, lc_eq, e0]
        exact h9
      · rw [if_neg h0] at hb
        have cs : (nI s.2).toNatClampNeg = s.2 := nI_clamp (by omega)
        have vs : vp_in (nI s.2) 80 := vp_in_nI (by omega) (by omega)
        have h9 := ih (shP (bvF w (shN (m + 1))) s) _ (by omega) (by show s.2 + 1 + m ≤ 80; omega) rfl hb
        rw [← put s H _ hH] at h9
        refine gw_ev (T := gT0) 60 [31] gRt_m (gTO_0 _ _ _ ⟨Nat.le_refl _, Nat.le_refl _⟩) ?_
        simp only [vc_i, vc_l, vc_r, vc_n, Nat.succ_ne_self, gSd_s, gEd_s, gEd_0, gEd_B, gB_t, gB_f, gGo_c, gGo_n, gAll_n, gAll_c, gwK_s, gCT, gCF, gSet, gSet2, gKill, gTw, gTs, gLs, List.map_cons, List.map_nil, fv0, fv1, fv2, fv3, List.getElem?_cons_zero, List.getElem?_cons_succ, List.set_cons_zero, List.set_cons_succ, List.not_mem_nil, List.mem_cons, Option.toList_some, Option.toList_none, List.cons_append, List.nil_append, if_false, if_true, true_and, and_true, forall_const, true_implies, false_implies, or_false, false_or, not_true_eq_false, not_false_eq_true, and_false, false_and, implies_true, Nat.reduceAdd, Nat.reduceEqDiff, Nat.reduceLT, ↓reduceIte, cls_RF_show, st_aload_n, st_getfield, st_ifCond, st_bipush, st_bastore, st_dup, st_iconst, st_iadd, st_putfield, st_istore_n, st_iload_n, st_lload_n, st_lshr, st_ldc2_w, st_land, st_lconst, st_lcmp, st_goto, st_l2i, st_i2b, st_iinc, st_return_, (show mRF_show.2.2.1 = 4 from rfl), gF_RF_250, gF_RF_71, fp_RF_show_250, kl_RF_240, dRF_show_0, dRF_show_1, dRF_show_4, tg_4_24, tz_4_24, dRF_show_7, dRF_show_8, dRF_show_11, dRF_show_12, dRF_show_15, bi_32, dRF_show_17, dRF_show_18, dRF_show_19, dRF_show_20, dRF_show_23, ic_1, dRF_show_24, dRF_show_25, dRF_show_28, bi_56, dRF_show_30, dRF_show_31, dRF_show_32, tg_32_48, tz_32_48, dRF_show_35, dRF_show_36, dRF_show_37, dRF_show_38, dRF_show_41, dRF_show_42, lc_0, dRF_show_43, dRF_show_44, tg_44_6, tz_44_6, dRF_show_47, tg_47_27, tz_47_27, dRF_show_50, dRF_show_51, dRF_show_54, dRF_show_55, dRF_show_58, dRF_show_59, dRF_show_60, dRF_show_61, dRF_show_62, dRF_show_63, dRF_show_64, dRF_show_65, dRF_show_66, dRF_show_69, dRF_show_70, dRF_show_71, dRF_show_74, ic_m8, dRF_show_77, tg_77_m46, tz_77_m46, dRF_show_80, hz, hg, hbt, lc_eq, h0, k0, k1, F18, s20, Fl, ss, gup_n _ _ x1, cs, hbv, nI_1]
        exact ⟨⟨hcB, vs⟩, fit_i _, h9⟩
  obtain ⟨k0, k1⟩ := rd s0 H0 hH0
  refine gC_of (lv0 := [some (.ref o), some (.long w), none, none]) (by decide +kernel) (Nat.le_of_ble_eq_true rfl) (fun q hq => hq) ⟨rfl, rfl⟩ ?_
  by_cases h1 : s0.2 = 0
  · have hsb : shB s0 = s0 := if_pos h1
    have h9 := loop 8 s0 H0 (by omega) (by omega) hH0 (by rw [hT, shwF, hsb])
    have e1 : nI s0.2 ≤ 0 := by rw [h1]; decide
    rw [← shN_8] at h9
    clear loop
    refine gw_ev (T := gT0) 60 [31] gRt_m (gTO_0 _ _ _ ⟨Nat.le_refl _, Nat.le_refl _⟩) ?_
    simp only [vc_i, vc_l, vc_r, vc_n, Nat.succ_ne_self, gSd_s, gEd_s, gEd_0, gEd_B, gB_t, gB_f, gGo_c, gGo_n, gAll_n, gAll_c, gwK_s, gCT, gCF, gSet, gSet2, gKill, gTw, gTs, gLs, List.map_cons, List.map_nil, fv0, fv1, fv2, fv3, List.getElem?_cons_zero, List.getElem?_cons_succ, List.set_cons_zero, List.set_cons_succ, List.not_mem_nil, List.mem_cons, Option.toList_some, Option.toList_none, List.cons_append, List.nil_append, if_false, if_true, true_and, and_true, forall_const, true_implies, false_implies, or_false, false_or, not_true_eq_false, not_false_eq_true, and_false, false_and, implies_true, Nat.reduceAdd, Nat.reduceEqDiff, Nat.reduceLT, ↓reduceIte, cls_RF_show, st_aload_n, st_getfield, st_ifCond, st_bipush, st_bastore, st_dup, st_iconst, st_iadd, st_putfield, st_istore_n, st_iload_n, st_lload_n, st_lshr, st_ldc2_w, st_land, st_lconst, st_lcmp, st_goto, st_l2i, st_i2b, st_iinc, st_return_, (show mRF_show.2.2.1 = 4 from rfl), gF_RF_250, gF_RF_71, fp_RF_show_250, kl_RF_240, dRF_show_0, dRF_show_1, dRF_show_4, tg_4_24, tz_4_24, dRF_show_7, dRF_show_8, dRF_show_11, dRF_show_12, dRF_show_15, bi_32, dRF_show_17, dRF_show_18, dRF_show_19, dRF_show_20, dRF_show_23, ic_1, dRF_show_24, dRF_show_25, dRF_show_28, bi_56, dRF_show_30, dRF_show_31, dRF_show_32, tg_32_48, tz_32_48, dRF_show_35, dRF_show_36, dRF_show_37, dRF_show_38, dRF_show_41, dRF_show_42, lc_0, dRF_show_43, dRF_show_44, tg_44_6, tz_44_6, dRF_show_47, tg_47_27, tz_47_27, dRF_show_50, dRF_show_51, dRF_show_54, dRF_show_55, dRF_show_58, dRF_show_59, dRF_show_60, dRF_show_61, dRF_show_62, dRF_show_63, dRF_show_64, dRF_show_65, dRF_show_66, dRF_show_69, dRF_show_70, dRF_show_71, dRF_show_74, ic_m8, dRF_show_77, tg_77_m46, tz_77_m46, dRF_show_80, k0, s20, e1]
    exact h9
  · have hsb : shB s0 = shP (vp_nar .byte 32) s0 := if_neg h1
    have e1 : ¬ nI s0.2 ≤ 0 := nI_nle (by omega) (by omega)
    have cs : (nI s0.2).toNatClampNeg = s0.2 := nI_clamp (by omega)
    have vs : vp_in (nI s0.2) 80 := vp_in_nI (by omega) (by omega)
    have h9 := loop 8 (shP (vp_nar .byte 32) s0) _ (by omega) (by show s0.2 + 1 + 8 ≤ 80; omega) rfl (by rw [hT, shwF, hsb])
    rw [← put s0 H0 _ hH0, ← shN_8] at h9
    clear loop
    refine gw_ev (T := gT0) 60 [31] gRt_m (gTO_0 _ _ _ ⟨Nat.le_refl _, Nat.le_refl _⟩) ?_
    simp only [vc_i, vc_l, vc_r, vc_n, Nat.succ_ne_self, gSd_s, gEd_s, gEd_0, gEd_B, gB_t, gB_f, gGo_c, gGo_n, gAll_n, gAll_c, gwK_s, gCT, gCF, gSet, gSet2, gKill, gTw, gTs, gLs, List.map_cons, List.map_nil, fv0, fv1, fv2, fv3, List.getElem?_cons_zero, List.getElem?_cons_succ, List.set_cons_zero, List.set_cons_succ, List.not_mem_nil, List.mem_cons, Option.toList_some, Option.toList_none, List.cons_append, List.nil_append, if_false, if_true, true_and, and_true, forall_const, true_implies, false_implies, or_false, false_or, not_true_eq_false, not_false_eq_true, and_false, false_and, implies_true, Nat.reduceAdd, Nat.reduceEqDiff, Nat.reduceLT, ↓reduceIte, cls_RF_show, st_aload_n, st_getfield, st_ifCond, st_bipush, st_bastore, st_dup, st_iconst, st_iadd, st_putfield, st_istore_n, st_iload_n, st_lload_n, st_lshr, st_ldc2_w, st_land, st_lconst, st_lcmp, st_goto, st_l2i, st_i2b, st_iinc, st_return_, (show mRF_show.2.2.1 = 4 from rfl), gF_RF_250, gF_RF_71, fp_RF_show_250, kl_RF_240, dRF_show_0, dRF_show_1, dRF_show_4, tg_4_24, tz_4_24, dRF_show_7, dRF_show_8, dRF_show_11, dRF_show_12, dRF_show_15, bi_32, dRF_show_17, dRF_show_18, dRF_show_19, dRF_show_20, dRF_show_23, ic_1, dRF_show_24, dRF_show_25, dRF_show_28, bi_56, dRF_show_30, dRF_show_31, dRF_show_32, tg_32_48, tz_32_48, dRF_show_35, dRF_show_36, dRF_show_37, dRF_show_38, dRF_show_41, dRF_show_42, lc_0, dRF_show_43, dRF_show_44, tg_44_6, tz_44_6, dRF_show_47, tg_47_27, tz_47_27, dRF_show_50, dRF_show_51, dRF_show_54, dRF_show_55, dRF_show_58, dRF_show_59, dRF_show_60, dRF_show_61, dRF_show_62, dRF_show_63, dRF_show_64, dRF_show_65, dRF_show_66, dRF_show_69, dRF_show_70, dRF_show_71, dRF_show_74, ic_m8, dRF_show_77, tg_77_m46, tz_77_m46, dRF_show_80, k0, k1, F18, s20, Fl, ss, gup_n _ _ x1, e1, cs, nI_1]
    exact ⟨⟨hcB, vs⟩, fit_i _, h9⟩
set_option maxRecDepth 100000 in
theorem c_RF_showThing (l : Launch) (g : gG) (cB cL : ClassId) (hcB : (cB, FieldType.byte) ∈ g.2.1) (hcL : (cL, FieldType.long) ∈ g.2.1) (o tA nA : Nat) (x : Int32) (hx : vp_in (idxF x) 15) (nm : Nat → Int64) (fs : List Value) (hlen : fs.length = 33) (s0 : SH) (hs0 : s0.2 + 9 ≤ 80) (h H0 : gH) (hH0 : H0 = hSH cB o tA fs s0 h) (f17 : fs[17]? = some (.ref nA)) (f18 : fs[18]? = some (.ref tA)) (hn : h nA = some (.inl (cL, 15, .inr (.inl nm)))) (x1 : o ≠ tA) (x2 : nA ≠ o) (x3 : nA ≠ tA) : gC l g mRF_showThing (gr 1) [.ref o, .int x] H0 (fun r h' => r = none ∧ h' = hSH cB o tA fs (shwF s0 (nm (idxF x).toNatClampNeg)) h) := by
  have k0 : H0 o = some (.inr (6, fs.set 20 (.int (nI s0.2)))) := by rw [hH0]; exact gh2_g0 x1
  have k2 : H0 nA = some (.inl (cL, 15, .inr (.inl nm))) := by rw [hH0]; unfold hSH; rw [gh2_x x2 x3]; exact hn
  have F17 : (fs.set 20 (.int (nI s0.2)))[17]? = some (.ref nA) := by rw [List.getElem?_set_ne (by omega)]; exact f17
  refine gC_of (lv0 := [some (.ref o), some (.int x)]) (by decide +kernel) (Nat.le_of_ble_eq_true rfl) (fun q hq => hq) ⟨rfl, rfl⟩ ?_
  refine gw_ev (T := gT1r) 60 [] gRt_m ⟨1, kgT1r, gr_ge (by first | decide | omega), ⟨Nat.le_refl _, Nat.le_refl _⟩⟩ ?_
  simp only [vc_i, vc_l, vc_r, vc_n, Nat.succ_ne_self, gSd_s, gEd_s, gEd_0, gEd_B, gB_t, gB_f, gGo_c, gGo_n, gAll_n, gAll_c, gwK_s, gCT, gCF, gSet, gSet2, gKill, gTw, gTs, gLs, List.map_cons, List.map_nil, fv0, fv1, fv2, fv3, List.getElem?_cons_zero, List.getElem?_cons_succ, List.set_cons_zero, List.set_cons_succ, List.not_mem_nil, List.mem_cons, Option.toList_some, Option.toList_none, List.cons_append, List.nil_append, if_false, if_true, true_and, and_true, forall_const, true_implies, false_implies, or_false, false_or, not_true_eq_false, not_false_eq_true, and_false, false_and, implies_true, Nat.reduceAdd, Nat.reduceEqDiff, Nat.reduceLT, ↓reduceIte, cls_RF_showThing, st_aload_n, st_getfield, st_iload_n, st_invokestatic, st_laload, st_invokevirtual, st_return_, (show mRF_showThing.2.2.1 = 2 from rfl), gF_RF_68, tn_RF_123, gT1r_118, gp_RF_index, ms_118, gCs_n, gCs_c, Nat.reduceLeDiff, tn_RF_253, (show gT1r 155 = none from rfl), dRF_showThing_0, dRF_showThing_1, dRF_showThing_2, dRF_showThing_5, dRF_showThing_6, dRF_showThing_9, dRF_showThing_10, dRF_showThing_13, k0, F17, k2]
  refine ⟨⟨hcL, hx⟩, ?_⟩
  refine gw_cV (r := []) dRF_showThing_10 (c_RF_show l g cB hcB o tA (nm (idxF x).toNatClampNeg) fs hlen s0 hs0 h H0 hH0 f18 x1) rfl (k0) rfl wc_RF_show wl_RF_253 wi_RF_show ws_RF_show wn_RF (by show _ ∧ _ ∧ _ = some 1; decide +kernel) (by decide) (gr_ge (by first | decide | omega)) (Nat.le_of_ble_eq_true rfl) ⟨Nat.le_refl _, Nat.le_refl _⟩ ?_
  refine gw_ev (T := gT0) 60 [] gRt_m (gTO_0 _ _ _ ⟨Nat.le_refl _, Nat.le_refl _⟩) ?_
  simp only [vc_i, vc_l, vc_r, vc_n, Nat.succ_ne_self, gSd_s, gEd_s, gEd_0, gEd_B, gB_t, gB_f, gGo_c, gGo_n, gAll_n, gAll_c, gwK_s, gCT, gCF, gSet, gSet2, gKill, gTw, gTs, gLs, List.map_cons, List.map_nil, fv0, fv1, fv2, fv3, List.getElem?_cons_zero, List.getElem?_cons_succ, List.set_cons_zero, List.set_cons_succ, List.not_mem_nil, List.mem_cons, Option.toList_some, Option.toList_none, List.cons_append, List.nil_append, if_false, if_true, true_and, and_true, forall_const, true_implies, false_implies, or_false, false_or, not_true_eq_false, not_false_eq_true, and_false, false_and, implies_true, Nat.reduceAdd, Nat.reduceEqDiff, Nat.reduceLT, ↓reduceIte, cls_RF_showThing, st_aload_n, st_getfield, st_iload_n, st_invokestatic, st_laload, st_invokevirtual, st_return_, (show mRF_showThing.2.2.1 = 2 from rfl), gF_RF_68, tn_RF_123, (show gT0 118 = none from rfl), tn_RF_253, (show gT0 155 = none from rfl), dRF_showThing_0, dRF_showThing_1, dRF_showThing_2, dRF_showThing_5, dRF_showThing_6, dRF_showThing_9, dRF_showThing_10, dRF_showThing_13]
  exact rfl
