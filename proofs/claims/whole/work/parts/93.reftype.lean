-- needs 10 11 12 13 14 15 16 17 18 18d 19 21 30 31 40 50 53 60 61 62 65 89 90
def tyR (w : Int64) : Nat → Nat → Option Nat
  | 0, many => some many
  | m + 1, many => if byG w (shN (m + 1)) = 0 then tyR w m many else if byG w (shN (m + 1)) < 32 ∨ 126 < byG w (shN (m + 1)) then none else tyR w m (many + 1)
theorem tyR_sz (w : Int64) : ∀ (m many q : Nat) (s : SH), tyR w m many = some q → (shBw w m s).2 + many = s.2 + q ∧ q ≤ many + m := by
  intro m
  induction m with
  | zero =>
    intro many q s h
    cases h
    exact ⟨rfl, by omega⟩
  | succ m ih =>
    intro many q s h
    unfold tyR at h
    unfold shBw
    by_cases h1 : byG w (shN (m + 1)) = 0
    · rw [if_pos h1] at h ⊢
      have := ih many q s h
      omega
    · rw [if_neg h1] at h ⊢
      by_cases h2 : byG w (shN (m + 1)) < 32 ∨ 126 < byG w (shN (m + 1))
      · rw [if_pos h2] at h
        cases h
      · rw [if_neg h2] at h
        have h3 := ih (many + 1) q (shP (bvF w (shN (m + 1))) s) h
        have h4 : (shP (bvF w (shN (m + 1))) s).2 = s.2 + 1 := rfl
        omega
def tyB (w : Int64) (ls : Nat) : Bool := match tyR w 8 0 with
  | none => false
  | some q => decide (ls + q ≤ 60)
theorem set_same {α : Type} : ∀ {L : List α} {i : Nat} {v : α}, L[i]? = some v → L.set i v = L
  | [], i, v, h => rfl
  | a :: L, 0, v, h => by
    have h2 : a = v := by simpa using h
    rw [h2]
    rfl
  | a :: L, i + 1, v, h => by
    have h2 : L[i]? = some v := by simpa using h
    show a :: L.set i v = a :: L
    rw [set_same h2]
def hLN (cB : ClassId) (o lA : Nat) (fs : List Value) (s : SH) (h : gH) : gH := gh2 o lA (.inr (6, fs.set 21 (.int (nI s.2)))) (.inl (cB, 60, .inl s.1)) h
set_option maxRecDepth 100000 in
set_option maxHeartbeats 4000000 in
theorem c_RF_type (l : Launch) (g : gG) (cB : ClassId) (hcB : (cB, FieldType.byte) ∈ g.2.1) (o lA : Nat) (w : Int64) (fs : List Value) (hlen : fs.length = 33) (s0 : SH) (hs0 : s0.2 ≤ 60) (h : gH) (ho : h o = some (.inr (6, fs))) (f19 : fs[19]? = some (.ref lA)) (f21 : fs[21]? = some (.int (nI s0.2))) (hl : h lA = some (.inl (cB, 60, .inl s0.1))) (x1 : o ≠ lA) : gC l g mRF_type (gr 0) [.ref o, .long w] h (fun r h' => r = some (.int (if tyB w s0.2 = true then nI (shBw w 8 s0).2 else -1)) ∧ h' = if tyB w s0.2 = true then hLN cB o lA (fs.set 1 (.int 0)) (shBw w 8 s0) h else gup h o (.inr (6, fs.set 1 (.int 0)))) := by
  obtain ⟨G, hG⟩ : ∃ G, G = fs.set 1 (.int (0 : Int32)) := ⟨_, rfl⟩
  have gs : ∀ i, 1 ≠ i → G[i]? = fs[i]? := fun i q => by rw [hG, List.getElem?_set_ne q]
  have G19 : G[19]? = some (.ref lA) := by rw [gs 19 (by omega)]; exact f19
  have G21 : G[21]? = some (.int (nI s0.2)) := by rw [gs 21 (by omega)]; exact f21
  have Gl : G.length = 33 := by rw [hG, List.length_set]; exact hlen
  rw [← hG]
  obtain ⟨H, hH⟩ : ∃ H, H = gup h o (.inr (6, G)) := ⟨_, rfl⟩
  have k0 : H o = some (.inr (6, G)) := by rw [hH, gup_s]
  rw [← hH]
  have hH2 : H = hLN cB o lA G s0 h := by
    rw [hH]
    unfold hLN
    show _ = gup (gup h o _) lA _
    rw [gup_id (a := lA)]
    · rw [set_same G21]
    · rw [gup_n _ _ (Ne.symm x1)]
      exact hl
  obtain ⟨B, hB⟩ : ∃ B, B = tyB w s0.2 := ⟨_, rfl⟩
  rw [← hB]
  obtain ⟨T, hT⟩ : ∃ T, T = shBw w 8 s0 := ⟨_, rfl⟩
  rw [← hT]
  obtain ⟨R, hR⟩ : ∃ R : Int32, R = if B = true then nI T.2 else -1 := ⟨_, rfl⟩
  obtain ⟨HT, hHT⟩ : ∃ HT, HT = if B = true then hLN cB o lA G T h else H := ⟨_, rfl⟩
  rw [← hR, ← hHT]
  have Bf : B = false → R = -1 ∧ HT = H := fun q => by
    rw [hR, hHT, q]
    exact ⟨if_neg Bool.false_ne_true, if_neg Bool.false_ne_true⟩
  have Bt : B = true → R = nI T.2 ∧ HT = hLN cB o lA G T h := fun q => by
    rw [hR, hHT, q]
    exact ⟨if_pos rfl, if_pos rfl⟩
  have F19 : ∀ v : Value, (G.set 21 v)[19]? = some (.ref lA) := fun v => by rw [List.getElem?_set_ne (by omega)]; exact G19
  have F21 : ∀ v : Value, (G.set 21 v)[21]? = some v := fun v => List.getElem?_set_self (by omega)
  have Fl : ∀ v : Value, (G.set 21 v).length = 33 := fun v => by rw [List.length_set]; exact Gl
  have ss : ∀ v u : Value, (G.set 21 v).set 21 u = G.set 21 u := fun v u => List.set_set ..
  have rd : ∀ (s : SH) (H : gH), H = hLN cB o lA G s h → H o = some (.inr (6, G.set 21 (.int (nI s.2)))) ∧ H lA = some (.inl (cB, 60, .inl s.1)) := fun s H hH => ⟨by rw [hH]; exact gh2_g0 x1, by rw [hH]; exact gh2_g1 x1⟩
  have put : ∀ (s : SH) (H : gH) (c : Int32), H = hLN cB o lA G s h → gup (gup H lA (.inl (cB, 60, .inl (upd s.1 s.2 c)))) o (.inr (6, G.set 21 (.int (nI (s.2 + 1))))) = hLN cB o lA G (shP c s) h := fun s H c hH => by
    rw [hH]
    unfold hLN
    rw [gh2_p1 x1, gh2_p0 x1]
    rfl
  have loop2 : B = true → T.2 ≤ 60 → ∀ (m : Nat) (s : SH) (H : gH), m ≤ 8 → H = hLN cB o lA G s h → shBw w m s = T → gw l g mRF_type (gr 0) h (gZm g h 0 0 (fun r h' => r = some (.int R) ∧ h' = HT)) 0 0 91 [some (.ref o), some (.long w), none, none, some (.int (shN m)), none, none] [] H := by
    intro hBt hT60
    obtain ⟨eR, eH⟩ := Bt hBt
    rw [eR, eH]
    intro m
    induction m with
    | zero =>
      intro s H hm8 hH hb
      obtain ⟨k0, k1⟩ := rd s H hH
      have hz := shN_0
      have hb2 : s = T := hb
      refine gw_ev (T := gT0) 60 [91] gRt_m (gTO_0 _ _ _ ⟨Nat.le_refl _, Nat.le_refl _⟩) ?_
      simp only [vc_i, vc_l, vc_r, vc_n, Nat.succ_ne_self, gSd_s, gEd_s, gEd_0, gEd_B, gB_t, gB_f, gGo_c, gGo_n, gAll_n, gAll_c, gwK_s, gCT, gCF, gSet, gSet2, gKill, gTw, gTs, gLs, List.map_cons, List.map_nil, fv0, fv1, fv2, fv3, List.getElem?_cons_zero, List.getElem?_cons_succ, List.set_cons_zero, List.set_cons_succ, List.not_mem_nil, List.mem_cons, Option.toList_some, Option.toList_none, List.cons_append, List.nil_append, if_false, if_true, true_and, and_true, forall_const, true_implies, false_implies, or_false, false_or, not_true_eq_false, not_false_eq_true, and_false, false_and, implies_true, Nat.reduceAdd, Nat.reduceEqDiff, Nat.reduceLT, ↓reduceIte, cls_RF_type, st_aload_n, st_iconst, st_putfield, st_istore_n, st_bipush, st_istore, st_iload, st_ifCond, st_lload_n, st_lshr, st_ldc2_w, st_land, st_lstore, st_lload, st_lconst, st_lcmp, st_ireturn, st_iload_n, st_goto, st_iadd, st_iinc, st_getfield, st_if_icmp, st_l2i, st_i2b, st_bastore, st_dup, (show mRF_type.2.2.1 = 7 from rfl), fp_RF_type_94, kl_RF_240, kl_RF_263, kl_RF_265, gF_RF_267, gF_RF_75, fp_RF_type_267, dRF_type_0, dRF_type_1, ic_0, dRF_type_2, dRF_type_5, dRF_type_6, dRF_type_7, bi_56, dRF_type_9, dRF_type_11, dRF_type_13, tg_13_61, tz_13_61, dRF_type_16, dRF_type_17, dRF_type_19, dRF_type_20, dRF_type_23, dRF_type_24, dRF_type_26, dRF_type_28, lc_0, dRF_type_29, dRF_type_30, tg_30_23, tz_30_23, dRF_type_33, dRF_type_35, dRF_type_38, dRF_type_39, tg_39_12, tz_39_12, dRF_type_42, dRF_type_44, dRF_type_47, dRF_type_48, tg_48_5, tz_48_5, dRF_type_51, ic_m1, dRF_type_52, dRF_type_53, dRF_type_54, dRF_type_56, dRF_type_57, dRF_type_58, tg_58_7, tz_58_7, dRF_type_61, ic_1, dRF_type_62, tg_62_4, tz_62_4, dRF_type_65, dRF_type_66, dRF_type_67, dRF_type_68, ic_m8, dRF_type_71, tg_71_m60, tz_71_m60, dRF_type_74, dRF_type_75, dRF_type_78, dRF_type_79, dRF_type_80, bi_60, dRF_type_82, tg_82_5, tz_82_5, dRF_type_85, dRF_type_86, dRF_type_87, dRF_type_89, dRF_type_91, dRF_type_93, tg_93_50, tz_93_50, dRF_type_96, dRF_type_97, dRF_type_99, dRF_type_100, dRF_type_103, dRF_type_104, dRF_type_105, dRF_type_106, tg_106_6, tz_106_6, dRF_type_109, tg_109_28, tz_109_28, dRF_type_112, dRF_type_113, dRF_type_116, dRF_type_117, dRF_type_120, dRF_type_121, dRF_type_123, dRF_type_124, dRF_type_125, dRF_type_126, dRF_type_127, dRF_type_128, dRF_type_129, dRF_type_132, dRF_type_133, dRF_type_134, dRF_type_137, dRF_type_140, tg_140_m49, tz_140_m49, dRF_type_143, dRF_type_144, dRF_type_147, hz, k0, F21]
      exact ⟨rfl, by rw [← hb2], by rw [← hb2]; exact hH⟩
    | succ m ih =>
      intro s H hm8 hH hb
      obtain ⟨k0, k1⟩ := rd s H hH
      have hz := shN_ge m (by omega)
      have hg := shN_go m (by omega)
      unfold shBw at hb
      have hbt : (w >>> ((shN (m + 1)).toInt64 &&& 63)) &&& 255 = byG w (shN (m + 1)) := rfl
      have hbv : vp_nar .byte ((w >>> ((shN (m + 1)).toInt64 &&& 63)).toInt32.toInt8.toInt32) = bvF w (shN (m + 1)) := rfl
      generalize byG w (shN (m + 1)) = b at hb hbt
      by_cases h0 : b = 0
      · have e0 : (b = 0) = True := eq_true h0
        rw [if_pos h0] at hb
        have h9 := ih s H (by omega) hH hb
        refine gw_ev (T := gT0) 60 [91] gRt_m (gTO_0 _ _ _ ⟨Nat.le_refl _, Nat.le_refl _⟩) ?_
        simp only [vc_i, vc_l, vc_r, vc_n, Nat.succ_ne_self, gSd_s, gEd_s, gEd_0, gEd_B, gB_t, gB_f, gGo_c, gGo_n, gAll_n, gAll_c, gwK_s, gCT, gCF, gSet, gSet2, gKill, gTw, gTs, gLs, List.map_cons, List.map_nil, fv0, fv1, fv2, fv3, List.getElem?_cons_zero, List.getElem?_cons_succ, List.set_cons_zero, List.set_cons_succ, List.not_mem_nil, List.mem_cons, Option.toList_some, Option.toList_none, List.cons_append, List.nil_append, if_false, if_true, true_and, and_true, forall_const, true_implies, false_implies, or_false, false_or, not_true_eq_false, not_false_eq_true, and_false, false_and, implies_true, Nat.reduceAdd, Nat.reduceEqDiff, Nat.reduceLT, ↓reduceIte, cls_RF_type, st_aload_n, st_iconst, st_putfield, st_istore_n, st_bipush, st_istore, st_iload, st_ifCond, st_lload_n, st_lshr, st_ldc2_w, st_land, st_lstore, st_lload, st_lconst, st_lcmp, st_ireturn, st_iload_n, st_goto, st_iadd, st_iinc, st_getfield, st_if_icmp, st_l2i, st_i2b, st_bastore, st_dup, (show mRF_type.2.2.1 = 7 from rfl), fp_RF_type_94, kl_RF_240, kl_RF_263, kl_RF_265, gF_RF_267, gF_RF_75, fp_RF_type_267, dRF_type_0, dRF_type_1, ic_0, dRF_type_2, dRF_type_5, dRF_type_6, dRF_type_7, bi_56, dRF_type_9, dRF_type_11, dRF_type_13, tg_13_61, tz_13_61, dRF_type_16, dRF_type_17, dRF_type_19, dRF_type_20, dRF_type_23, dRF_type_24, dRF_type_26, dRF_type_28, lc_0, dRF_type_29, dRF_type_30, tg_30_23, tz_30_23, dRF_type_33, dRF_type_35, dRF_type_38, dRF_type_39, tg_39_12, tz_39_12, dRF_type_42, dRF_type_44, dRF_type_47, dRF_type_48, tg_48_5, tz_48_5, dRF_type_51, ic_m1, dRF_type_52, dRF_type_53, dRF_type_54, dRF_type_56, dRF_type_57, dRF_type_58, tg_58_7, tz_58_7, dRF_type_61, ic_1, dRF_type_62, tg_62_4, tz_62_4, dRF_type_65, dRF_type_66, dRF_type_67, dRF_type_68, ic_m8, dRF_type_71, tg_71_m60, tz_71_m60, dRF_type_74, dRF_type_75, dRF_type_78, dRF_type_79, dRF_type_80, bi_60, dRF_type_82, tg_82_5, tz_82_5, dRF_type_85, dRF_type_86, dRF_type_87, dRF_type_89, dRF_type_91, dRF_type_93, tg_93_50, tz_93_50, dRF_type_96, dRF_type_97, dRF_type_99, dRF_type_100, dRF_type_103, dRF_type_104, dRF_type_105, dRF_type_106, tg_106_6, tz_106_6, dRF_type_109, tg_109_28, tz_109_28, dRF_type_112, dRF_type_113, dRF_type_116, dRF_type_117, dRF_type_120, dRF_type_121, dRF_type_123, dRF_type_124, dRF_type_125, dRF_type_126, dRF_type_127, dRF_type_128, dRF_type_129, dRF_type_132, dRF_type_133, dRF_type_134, dRF_type_137, dRF_type_140, tg_140_m49, tz_140_m49, dRF_type_143, dRF_type_144, dRF_type_147, hz, hg, hbt, lc_eq, e0]
        exact h9
      · rw [if_neg h0] at hb
        have hsz : s.2 < 60 := by
          have q1 := (shW_le w m (shP (bvF w (shN (m + 1))) s)).1
          rw [hb] at q1
          have q2 : (shP (bvF w (shN (m + 1))) s).2 = s.2 + 1 := rfl
          omega
        have cs : (nI s.2).toNatClampNeg = s.2 := nI_clamp (by omega)
        have vs : vp_in (nI s.2) 60 := vp_in_nI (by omega) (by omega)
        have h9 := ih (shP (bvF w (shN (m + 1))) s) _ (by omega) rfl hb
        rw [← put s H _ hH] at h9
        refine gw_ev (T := gT0) 60 [91] gRt_m (gTO_0 _ _ _ ⟨Nat.le_refl _, Nat.le_refl _⟩) ?_
        simp only [vc_i, vc_l, vc_r, vc_n, Nat.succ_ne_self, gSd_s, gEd_s, gEd_0, gEd_B, gB_t, gB_f, gGo_c, gGo_n, gAll_n, gAll_c, gwK_s, gCT, gCF, gSet, gSet2, gKill, gTw, gTs, gLs, List.map_cons, List.map_nil, fv0, fv1, fv2, fv3, List.getElem?_cons_zero, List.getElem?_cons_succ, List.set_cons_zero, List.set_cons_succ, List.not_mem_nil, List.mem_cons, Option.toList_some, Option.toList_none, List.cons_append, List.nil_append, if_false, if_true, true_and, and_true, forall_const, true_implies, false_implies, or_false, false_or, not_true_eq_false, not_false_eq_true, and_false, false_and, implies_true, Nat.reduceAdd, Nat.reduceEqDiff, Nat.reduceLT, ↓reduceIte, cls_RF_type, st_aload_n, st_iconst, st_putfield, st_istore_n, st_bipush, st_istore, st_iload, st_ifCond, st_lload_n, st_lshr, st_ldc2_w, st_land, st_lstore, st_lload, st_lconst, st_lcmp, st_ireturn, st_iload_n, st_goto, st_iadd, st_iinc, st_getfield, st_if_icmp, st_l2i, st_i2b, st_bastore, st_dup, (show mRF_type.2.2.1 = 7 from rfl), fp_RF_type_94, kl_RF_240, kl_RF_263, kl_RF_265, gF_RF_267, gF_RF_75, fp_RF_type_267, dRF_type_0, dRF_type_1, ic_0, dRF_type_2, dRF_type_5, dRF_type_6, dRF_type_7, bi_56, dRF_type_9, dRF_type_11, dRF_type_13, tg_13_61, tz_13_61, dRF_type_16, dRF_type_17, dRF_type_19, dRF_type_20, dRF_type_23, dRF_type_24, dRF_type_26, dRF_type_28, lc_0, dRF_type_29, dRF_type_30, tg_30_23, tz_30_23, dRF_type_33, dRF_type_35, dRF_type_38, dRF_type_39, tg_39_12, tz_39_12, dRF_type_42, dRF_type_44, dRF_type_47, dRF_type_48, tg_48_5, tz_48_5, dRF_type_51, ic_m1, dRF_type_52, dRF_type_53, dRF_type_54, dRF_type_56, dRF_type_57, dRF_type_58, tg_58_7, tz_58_7, dRF_type_61, ic_1, dRF_type_62, tg_62_4, tz_62_4, dRF_type_65, dRF_type_66, dRF_type_67, dRF_type_68, ic_m8, dRF_type_71, tg_71_m60, tz_71_m60, dRF_type_74, dRF_type_75, dRF_type_78, dRF_type_79, dRF_type_80, bi_60, dRF_type_82, tg_82_5, tz_82_5, dRF_type_85, dRF_type_86, dRF_type_87, dRF_type_89, dRF_type_91, dRF_type_93, tg_93_50, tz_93_50, dRF_type_96, dRF_type_97, dRF_type_99, dRF_type_100, dRF_type_103, dRF_type_104, dRF_type_105, dRF_type_106, tg_106_6, tz_106_6, dRF_type_109, tg_109_28, tz_109_28, dRF_type_112, dRF_type_113, dRF_type_116, dRF_type_117, dRF_type_120, dRF_type_121, dRF_type_123, dRF_type_124, dRF_type_125, dRF_type_126, dRF_type_127, dRF_type_128, dRF_type_129, dRF_type_132, dRF_type_133, dRF_type_134, dRF_type_137, dRF_type_140, tg_140_m49, tz_140_m49, dRF_type_143, dRF_type_144, dRF_type_147, hz, hg, hbt, lc_eq, h0, k0, k1, F19, F21, Fl, ss, gup_n _ _ x1, cs, hbv, nI_1]
        exact ⟨⟨hcB, vs⟩, fit_i _, h9⟩
  have s74 : ∀ many : Nat, many ≤ 8 → tyR w 8 0 = some many → gw l g mRF_type (gr 0) h (gZm g h 0 0 (fun r h' => r = some (.int R) ∧ h' = HT)) 0 0 74 [some (.ref o), some (.long w), none, some (.int (nI many)), none, none, none] [] H := by
    intro many hm8 hty
    have hBe : B = decide (s0.2 + many ≤ 60) := by rw [hB, tyB, hty]
    by_cases h1 : s0.2 + many ≤ 60
    · have e1 : nI (s0.2 + many) ≤ 60 := nI_le (b := 60) h1 (by omega)
      rw [decide_eq_true h1] at hBe
      have hsz := (tyR_sz w 8 0 many s0 hty).1
      have h9 := loop2 hBe (by rw [hT]; omega) 8 s0 H (by omega) hH2 hT.symm
      rw [← shN_8] at h9
      refine gw_ev (T := gT0) 60 [91] gRt_m (gTO_0 _ _ _ ⟨Nat.le_refl _, Nat.le_refl _⟩) ?_
      simp only [vc_i, vc_l, vc_r, vc_n, Nat.succ_ne_self, gSd_s, gEd_s, gEd_0, gEd_B, gB_t, gB_f, gGo_c, gGo_n, gAll_n, gAll_c, gwK_s, gCT, gCF, gSet, gSet2, gKill, gTw, gTs, gLs, List.map_cons, List.map_nil, fv0, fv1, fv2, fv3, List.getElem?_cons_zero, List.getElem?_cons_succ, List.set_cons_zero, List.set_cons_succ, List.not_mem_nil, List.mem_cons, Option.toList_some, Option.toList_none, List.cons_append, List.nil_append, if_false, if_true, true_and, and_true, forall_const, true_implies, false_implies, or_false, false_or, not_true_eq_false, not_false_eq_true, and_false, false_and, implies_true, Nat.reduceAdd, Nat.reduceEqDiff, Nat.reduceLT, ↓reduceIte, cls_RF_type, st_aload_n, st_iconst, st_putfield, st_istore_n, st_bipush, st_istore, st_iload, st_ifCond, st_lload_n, st_lshr, st_ldc2_w, st_land, st_lstore, st_lload, st_lconst, st_lcmp, st_ireturn, st_iload_n, st_goto, st_iadd, st_iinc, st_getfield, st_if_icmp, st_l2i, st_i2b, st_bastore, st_dup, (show mRF_type.2.2.1 = 7 from rfl), fp_RF_type_94, kl_RF_240, kl_RF_263, kl_RF_265, gF_RF_267, gF_RF_75, fp_RF_type_267, dRF_type_0, dRF_type_1, ic_0, dRF_type_2, dRF_type_5, dRF_type_6, dRF_type_7, bi_56, dRF_type_9, dRF_type_11, dRF_type_13, tg_13_61, tz_13_61, dRF_type_16, dRF_type_17, dRF_type_19, dRF_type_20, dRF_type_23, dRF_type_24, dRF_type_26, dRF_type_28, lc_0, dRF_type_29, dRF_type_30, tg_30_23, tz_30_23, dRF_type_33, dRF_type_35, dRF_type_38, dRF_type_39, tg_39_12, tz_39_12, dRF_type_42, dRF_type_44, dRF_type_47, dRF_type_48, tg_48_5, tz_48_5, dRF_type_51, ic_m1, dRF_type_52, dRF_type_53, dRF_type_54, dRF_type_56, dRF_type_57, dRF_type_58, tg_58_7, tz_58_7, dRF_type_61, ic_1, dRF_type_62, tg_62_4, tz_62_4, dRF_type_65, dRF_type_66, dRF_type_67, dRF_type_68, ic_m8, dRF_type_71, tg_71_m60, tz_71_m60, dRF_type_74, dRF_type_75, dRF_type_78, dRF_type_79, dRF_type_80, bi_60, dRF_type_82, tg_82_5, tz_82_5, dRF_type_85, dRF_type_86, dRF_type_87, dRF_type_89, dRF_type_91, dRF_type_93, tg_93_50, tz_93_50, dRF_type_96, dRF_type_97, dRF_type_99, dRF_type_100, dRF_type_103, dRF_type_104, dRF_type_105, dRF_type_106, tg_106_6, tz_106_6, dRF_type_109, tg_109_28, tz_109_28, dRF_type_112, dRF_type_113, dRF_type_116, dRF_type_117, dRF_type_120, dRF_type_121, dRF_type_123, dRF_type_124, dRF_type_125, dRF_type_126, dRF_type_127, dRF_type_128, dRF_type_129, dRF_type_132, dRF_type_133, dRF_type_134, dRF_type_137, dRF_type_140, tg_140_m49, tz_140_m49, dRF_type_143, dRF_type_144, dRF_type_147, k0, G21, nI_add, e1]
      exact gw_less (by simp [gLe]) h9
    · have e1 : ¬ nI (s0.2 + many) ≤ 60 := nI_ge (a := 60) (by omega) (by omega)
      rw [decide_eq_false h1] at hBe
      obtain ⟨eR, eH⟩ := Bf hBe
      rw [eR, eH]
      refine gw_ev (T := gT0) 60 [91] gRt_m (gTO_0 _ _ _ ⟨Nat.le_refl _, Nat.le_refl _⟩) ?_
      simp only [vc_i, vc_l, vc_r, vc_n, Nat.succ_ne_self, gSd_s, gEd_s, gEd_0, gEd_B, gB_t, gB_f, gGo_c, gGo_n, gAll_n, gAll_c, gwK_s, gCT, gCF, gSet, gSet2, gKill, gTw, gTs, gLs, List.map_cons, List.map_nil, fv0, fv1, fv2, fv3, List.getElem?_cons_zero, List.getElem?_cons_succ, List.set_cons_zero, List.set_cons_succ, List.not_mem_nil, List.mem_cons, Option.toList_some, Option.toList_none, List.cons_append, List.nil_append, if_false, if_true, true_and, and_true, forall_const, true_implies, false_implies, or_false, false_or, not_true_eq_false, not_false_eq_true, and_false, false_and, implies_true, Nat.reduceAdd, Nat.reduceEqDiff, Nat.reduceLT, ↓reduceIte, cls_RF_type, st_aload_n, st_iconst, st_putfield, st_istore_n, st_bipush, st_istore, st_iload, st_ifCond, st_lload_n, st_lshr, st_ldc2_w, st_land, st_lstore, st_lload, st_lconst, st_lcmp, st_ireturn, st_iload_n, st_goto, st_iadd, st_iinc, st_getfield, st_if_icmp, st_l2i, st_i2b, st_bastore, st_dup, (show mRF_type.2.2.1 = 7 from rfl), fp_RF_type_94, kl_RF_240, kl_RF_263, kl_RF_265, gF_RF_267, gF_RF_75, fp_RF_type_267, dRF_type_0, dRF_type_1, ic_0, dRF_type_2, dRF_type_5, dRF_type_6, dRF_type_7, bi_56, dRF_type_9, dRF_type_11, dRF_type_13, tg_13_61, tz_13_61, dRF_type_16, dRF_type_17, dRF_type_19, dRF_type_20, dRF_type_23, dRF_type_24, dRF_type_26, dRF_type_28, lc_0, dRF_type_29, dRF_type_30, tg_30_23, tz_30_23, dRF_type_33, dRF_type_35, dRF_type_38, dRF_type_39, tg_39_12, tz_39_12, dRF_type_42, dRF_type_44, dRF_type_47, dRF_type_48, tg_48_5, tz_48_5, dRF_type_51, ic_m1, dRF_type_52, dRF_type_53, dRF_type_54, dRF_type_56, dRF_type_57, dRF_type_58, tg_58_7, tz_58_7, dRF_type_61, ic_1, dRF_type_62, tg_62_4, tz_62_4, dRF_type_65, dRF_type_66, dRF_type_67, dRF_type_68, ic_m8, dRF_type_71, tg_71_m60, tz_71_m60, dRF_type_74, dRF_type_75, dRF_type_78, dRF_type_79, dRF_type_80, bi_60, dRF_type_82, tg_82_5, tz_82_5, dRF_type_85, dRF_type_86, dRF_type_87, dRF_type_89, dRF_type_91, dRF_type_93, tg_93_50, tz_93_50, dRF_type_96, dRF_type_97, dRF_type_99, dRF_type_100, dRF_type_103, dRF_type_104, dRF_type_105, dRF_type_106, tg_106_6, tz_106_6, dRF_type_109, tg_109_28, tz_109_28, dRF_type_112, dRF_type_113, dRF_type_116, dRF_type_117, dRF_type_120, dRF_type_121, dRF_type_123, dRF_type_124, dRF_type_125, dRF_type_126, dRF_type_127, dRF_type_128, dRF_type_129, dRF_type_132, dRF_type_133, dRF_type_134, dRF_type_137, dRF_type_140, tg_140_m49, tz_140_m49, dRF_type_143, dRF_type_144, dRF_type_147, k0, G21, nI_add, e1]
      exact rfl
  clear loop2
  have loop1 : ∀ (m many : Nat), many + m ≤ 8 → tyR w m many = tyR w 8 0 → gw l g mRF_type (gr 0) h (gZm g h 0 0 (fun r h' => r = some (.int R) ∧ h' = HT)) 0 0 11 [some (.ref o), some (.long w), none, some (.int (nI many)), some (.int (shN m)), none, none] [] H := by
    intro m
    induction m with
    | zero =>
      intro many hmm hb
      have hz := shN_0
      have h9 := s74 many (by omega) hb.symm
      refine gw_ev (T := gT0) 60 [74] gRt_m (gTO_0 _ _ _ ⟨Nat.le_refl _, Nat.le_refl _⟩) ?_
      simp only [vc_i, vc_l, vc_r, vc_n, Nat.succ_ne_self, gSd_s, gEd_s, gEd_0, gEd_B, gB_t, gB_f, gGo_c, gGo_n, gAll_n, gAll_c, gwK_s, gCT, gCF, gSet, gSet2, gKill, gTw, gTs, gLs, List.map_cons, List.map_nil, fv0, fv1, fv2, fv3, List.getElem?_cons_zero, List.getElem?_cons_succ, List.set_cons_zero, List.set_cons_succ, List.not_mem_nil, List.mem_cons, Option.toList_some, Option.toList_none, List.cons_append, List.nil_append, if_false, if_true, true_and, and_true, forall_const, true_implies, false_implies, or_false, false_or, not_true_eq_false, not_false_eq_true, and_false, false_and, implies_true, Nat.reduceAdd, Nat.reduceEqDiff, Nat.reduceLT, ↓reduceIte, cls_RF_type, st_aload_n, st_iconst, st_putfield, st_istore_n, st_bipush, st_istore, st_iload, st_ifCond, st_lload_n, st_lshr, st_ldc2_w, st_land, st_lstore, st_lload, st_lconst, st_lcmp, st_ireturn, st_iload_n, st_goto, st_iadd, st_iinc, st_getfield, st_if_icmp, st_l2i, st_i2b, st_bastore, st_dup, (show mRF_type.2.2.1 = 7 from rfl), fp_RF_type_94, kl_RF_240, kl_RF_263, kl_RF_265, gF_RF_267, gF_RF_75, fp_RF_type_267, dRF_type_0, dRF_type_1, ic_0, dRF_type_2, dRF_type_5, dRF_type_6, dRF_type_7, bi_56, dRF_type_9, dRF_type_11, dRF_type_13, tg_13_61, tz_13_61, dRF_type_16, dRF_type_17, dRF_type_19, dRF_type_20, dRF_type_23, dRF_type_24, dRF_type_26, dRF_type_28, lc_0, dRF_type_29, dRF_type_30, tg_30_23, tz_30_23, dRF_type_33, dRF_type_35, dRF_type_38, dRF_type_39, tg_39_12, tz_39_12, dRF_type_42, dRF_type_44, dRF_type_47, dRF_type_48, tg_48_5, tz_48_5, dRF_type_51, ic_m1, dRF_type_52, dRF_type_53, dRF_type_54, dRF_type_56, dRF_type_57, dRF_type_58, tg_58_7, tz_58_7, dRF_type_61, ic_1, dRF_type_62, tg_62_4, tz_62_4, dRF_type_65, dRF_type_66, dRF_type_67, dRF_type_68, ic_m8, dRF_type_71, tg_71_m60, tz_71_m60, dRF_type_74, dRF_type_75, dRF_type_78, dRF_type_79, dRF_type_80, bi_60, dRF_type_82, tg_82_5, tz_82_5, dRF_type_85, dRF_type_86, dRF_type_87, dRF_type_89, dRF_type_91, dRF_type_93, tg_93_50, tz_93_50, dRF_type_96, dRF_type_97, dRF_type_99, dRF_type_100, dRF_type_103, dRF_type_104, dRF_type_105, dRF_type_106, tg_106_6, tz_106_6, dRF_type_109, tg_109_28, tz_109_28, dRF_type_112, dRF_type_113, dRF_type_116, dRF_type_117, dRF_type_120, dRF_type_121, dRF_type_123, dRF_type_124, dRF_type_125, dRF_type_126, dRF_type_127, dRF_type_128, dRF_type_129, dRF_type_132, dRF_type_133, dRF_type_134, dRF_type_137, dRF_type_140, tg_140_m49, tz_140_m49, dRF_type_143, dRF_type_144, dRF_type_147, hz]
      exact gw_less (by simp [gLe]) h9
    | succ m ih =>
      intro many hmm hb
      have hz := shN_ge m (by omega)
      have hg := shN_go m (by omega)
      have hb2 : (if byG w (shN (m + 1)) = 0 then tyR w m many else if byG w (shN (m + 1)) < 32 ∨ 126 < byG w (shN (m + 1)) then none else tyR w m (many + 1)) = tyR w 8 0 := hb
      have hbt : (w >>> ((shN (m + 1)).toInt64 &&& 63)) &&& 255 = byG w (shN (m + 1)) := rfl
      generalize byG w (shN (m + 1)) = b at hb2 hbt
      have a0 : ∀ x : Int32, x + 0 = x := Int32.add_zero
      by_cases h0 : b = 0
      · have e0 : (b = 0) = True := eq_true h0
        rw [if_pos h0] at hb2
        have h9 := ih many (by omega) hb2
        refine gw_ev (T := gT0) 60 [11] gRt_m (gTO_0 _ _ _ ⟨Nat.le_refl _, Nat.le_refl _⟩) ?_
        simp only [vc_i, vc_l, vc_r, vc_n, Nat.succ_ne_self, gSd_s, gEd_s, gEd_0, gEd_B, gB_t, gB_f, gGo_c, gGo_n, gAll_n, gAll_c, gwK_s, gCT, gCF, gSet, gSet2, gKill, gTw, gTs, gLs, List.map_cons, List.map_nil, fv0, fv1, fv2, fv3, List.getElem?_cons_zero, List.getElem?_cons_succ, List.set_cons_zero, List.set_cons_succ, List.not_mem_nil, List.mem_cons, Option.toList_some, Option.toList_none, List.cons_append, List.nil_append, if_false, if_true, true_and, and_true, forall_const, true_implies, false_implies, or_false, false_or, not_true_eq_false, not_false_eq_true, and_false, false_and, implies_true, Nat.reduceAdd, Nat.reduceEqDiff, Nat.reduceLT, ↓reduceIte, cls_RF_type, st_aload_n, st_iconst, st_putfield, st_istore_n, st_bipush, st_istore, st_iload, st_ifCond, st_lload_n, st_lshr, st_ldc2_w, st_land, st_lstore, st_lload, st_lconst, st_lcmp, st_ireturn, st_iload_n, st_goto, st_iadd, st_iinc, st_getfield, st_if_icmp, st_l2i, st_i2b, st_bastore, st_dup, (show mRF_type.2.2.1 = 7 from rfl), fp_RF_type_94, kl_RF_240, kl_RF_263, kl_RF_265, gF_RF_267, gF_RF_75, fp_RF_type_267, dRF_type_0, dRF_type_1, ic_0, dRF_type_2, dRF_type_5, dRF_type_6, dRF_type_7, bi_56, dRF_type_9, dRF_type_11, dRF_type_13, tg_13_61, tz_13_61, dRF_type_16, dRF_type_17, dRF_type_19, dRF_type_20, dRF_type_23, dRF_type_24, dRF_type_26, dRF_type_28, lc_0, dRF_type_29, dRF_type_30, tg_30_23, tz_30_23, dRF_type_33, dRF_type_35, dRF_type_38, dRF_type_39, tg_39_12, tz_39_12, dRF_type_42, dRF_type_44, dRF_type_47, dRF_type_48, tg_48_5, tz_48_5, dRF_type_51, ic_m1, dRF_type_52, dRF_type_53, dRF_type_54, dRF_type_56, dRF_type_57, dRF_type_58, tg_58_7, tz_58_7, dRF_type_61, ic_1, dRF_type_62, tg_62_4, tz_62_4, dRF_type_65, dRF_type_66, dRF_type_67, dRF_type_68, ic_m8, dRF_type_71, tg_71_m60, tz_71_m60, dRF_type_74, dRF_type_75, dRF_type_78, dRF_type_79, dRF_type_80, bi_60, dRF_type_82, tg_82_5, tz_82_5, dRF_type_85, dRF_type_86, dRF_type_87, dRF_type_89, dRF_type_91, dRF_type_93, tg_93_50, tz_93_50, dRF_type_96, dRF_type_97, dRF_type_99, dRF_type_100, dRF_type_103, dRF_type_104, dRF_type_105, dRF_type_106, tg_106_6, tz_106_6, dRF_type_109, tg_109_28, tz_109_28, dRF_type_112, dRF_type_113, dRF_type_116, dRF_type_117, dRF_type_120, dRF_type_121, dRF_type_123, dRF_type_124, dRF_type_125, dRF_type_126, dRF_type_127, dRF_type_128, dRF_type_129, dRF_type_132, dRF_type_133, dRF_type_134, dRF_type_137, dRF_type_140, tg_140_m49, tz_140_m49, dRF_type_143, dRF_type_144, dRF_type_147, hz, hg, hbt, lc_eq, e0, a0]
        exact gw_less (by simp [gLe]) h9
      · rw [if_neg h0] at hb2
        by_cases h1 : b < 32
        · rw [if_pos (Or.inl h1)] at hb2
          obtain ⟨eR, eH⟩ := Bf (by rw [hB, tyB, ← hb2])
          rw [eR, eH]
          refine gw_ev (T := gT0) 60 [11] gRt_m (gTO_0 _ _ _ ⟨Nat.le_refl _, Nat.le_refl _⟩) ?_
          simp only [vc_i, vc_l, vc_r, vc_n, Nat.succ_ne_self, gSd_s, gEd_s, gEd_0, gEd_B, gB_t, gB_f, gGo_c, gGo_n, gAll_n, gAll_c, gwK_s, gCT, gCF, gSet, gSet2, gKill, gTw, gTs, gLs, List.map_cons, List.map_nil, fv0, fv1, fv2, fv3, List.getElem?_cons_zero, List.getElem?_cons_succ, List.set_cons_zero, List.set_cons_succ, List.not_mem_nil, List.mem_cons, Option.toList_some, Option.toList_none, List.cons_append, List.nil_append, if_false, if_true, true_and, and_true, forall_const, true_implies, false_implies, or_false, false_or, not_true_eq_false, not_false_eq_true, and_false, false_and, implies_true, Nat.reduceAdd, Nat.reduceEqDiff, Nat.reduceLT, ↓reduceIte, cls_RF_type, st_aload_n, st_iconst, st_putfield, st_istore_n, st_bipush, st_istore, st_iload, st_ifCond, st_lload_n, st_lshr, st_ldc2_w, st_land, st_lstore, st_lload, st_lconst, st_lcmp, st_ireturn, st_iload_n, st_goto, st_iadd, st_iinc, st_getfield, st_if_icmp, st_l2i, st_i2b, st_bastore, st_dup, (show mRF_type.2.2.1 = 7 from rfl), fp_RF_type_94, kl_RF_240, kl_RF_263, kl_RF_265, gF_RF_267, gF_RF_75, fp_RF_type_267, dRF_type_0, dRF_type_1, ic_0, dRF_type_2, dRF_type_5, dRF_type_6, dRF_type_7, bi_56, dRF_type_9, dRF_type_11, dRF_type_13, tg_13_61, tz_13_61, dRF_type_16, dRF_type_17, dRF_type_19, dRF_type_20, dRF_type_23, dRF_type_24, dRF_type_26, dRF_type_28, lc_0, dRF_type_29, dRF_type_30, tg_30_23, tz_30_23, dRF_type_33, dRF_type_35, dRF_type_38, dRF_type_39, tg_39_12, tz_39_12, dRF_type_42, dRF_type_44, dRF_type_47, dRF_type_48, tg_48_5, tz_48_5, dRF_type_51, ic_m1, dRF_type_52, dRF_type_53, dRF_type_54, dRF_type_56, dRF_type_57, dRF_type_58, tg_58_7, tz_58_7, dRF_type_61, ic_1, dRF_type_62, tg_62_4, tz_62_4, dRF_type_65, dRF_type_66, dRF_type_67, dRF_type_68, ic_m8, dRF_type_71, tg_71_m60, tz_71_m60, dRF_type_74, dRF_type_75, dRF_type_78, dRF_type_79, dRF_type_80, bi_60, dRF_type_82, tg_82_5, tz_82_5, dRF_type_85, dRF_type_86, dRF_type_87, dRF_type_89, dRF_type_91, dRF_type_93, tg_93_50, tz_93_50, dRF_type_96, dRF_type_97, dRF_type_99, dRF_type_100, dRF_type_103, dRF_type_104, dRF_type_105, dRF_type_106, tg_106_6, tz_106_6, dRF_type_109, tg_109_28, tz_109_28, dRF_type_112, dRF_type_113, dRF_type_116, dRF_type_117, dRF_type_120, dRF_type_121, dRF_type_123, dRF_type_124, dRF_type_125, dRF_type_126, dRF_type_127, dRF_type_128, dRF_type_129, dRF_type_132, dRF_type_133, dRF_type_134, dRF_type_137, dRF_type_140, tg_140_m49, tz_140_m49, dRF_type_143, dRF_type_144, dRF_type_147, hz, hg, hbt, lc_eq, h0, lc_lt, h1]
          exact rfl
        · by_cases h2 : b ≤ 126
          · have e2 : ¬ 126 < b := Int64.not_lt.mpr h2
            rw [if_neg (fun q => q.elim h1 e2)] at hb2
            have h9 := ih (many + 1) (by omega) hb2
            refine gw_ev (T := gT0) 60 [11] gRt_m (gTO_0 _ _ _ ⟨Nat.le_refl _, Nat.le_refl _⟩) ?_
            simp only [vc_i, vc_l, vc_r, vc_n, Nat.succ_ne_self, gSd_s, gEd_s, gEd_0, gEd_B, gB_t, gB_f, gGo_c, gGo_n, gAll_n, gAll_c, gwK_s, gCT, gCF, gSet, gSet2, gKill, gTw, gTs, gLs, List.map_cons, List.map_nil, fv0, fv1, fv2, fv3, List.getElem?_cons_zero, List.getElem?_cons_succ, List.set_cons_zero, List.set_cons_succ, List.not_mem_nil, List.mem_cons, Option.toList_some, Option.toList_none, List.cons_append, List.nil_append, if_false, if_true, true_and, and_true, forall_const, true_implies, false_implies, or_false, false_or, not_true_eq_false, not_false_eq_true, and_false, false_and, implies_true, Nat.reduceAdd, Nat.reduceEqDiff, Nat.reduceLT, ↓reduceIte, cls_RF_type, st_aload_n, st_iconst, st_putfield, st_istore_n, st_bipush, st_istore, st_iload, st_ifCond, st_lload_n, st_lshr, st_ldc2_w, st_land, st_lstore, st_lload, st_lconst, st_lcmp, st_ireturn, st_iload_n, st_goto, st_iadd, st_iinc, st_getfield, st_if_icmp, st_l2i, st_i2b, st_bastore, st_dup, (show mRF_type.2.2.1 = 7 from rfl), fp_RF_type_94, kl_RF_240, kl_RF_263, kl_RF_265, gF_RF_267, gF_RF_75, fp_RF_type_267, dRF_type_0, dRF_type_1, ic_0, dRF_type_2, dRF_type_5, dRF_type_6, dRF_type_7, bi_56, dRF_type_9, dRF_type_11, dRF_type_13, tg_13_61, tz_13_61, dRF_type_16, dRF_type_17, dRF_type_19, dRF_type_20, dRF_type_23, dRF_type_24, dRF_type_26, dRF_type_28, lc_0, dRF_type_29, dRF_type_30, tg_30_23, tz_30_23, dRF_type_33, dRF_type_35, dRF_type_38, dRF_type_39, tg_39_12, tz_39_12, dRF_type_42, dRF_type_44, dRF_type_47, dRF_type_48, tg_48_5, tz_48_5, dRF_type_51, ic_m1, dRF_type_52, dRF_type_53, dRF_type_54, dRF_type_56, dRF_type_57, dRF_type_58, tg_58_7, tz_58_7, dRF_type_61, ic_1, dRF_type_62, tg_62_4, tz_62_4, dRF_type_65, dRF_type_66, dRF_type_67, dRF_type_68, ic_m8, dRF_type_71, tg_71_m60, tz_71_m60, dRF_type_74, dRF_type_75, dRF_type_78, dRF_type_79, dRF_type_80, bi_60, dRF_type_82, tg_82_5, tz_82_5, dRF_type_85, dRF_type_86, dRF_type_87, dRF_type_89, dRF_type_91, dRF_type_93, tg_93_50, tz_93_50, dRF_type_96, dRF_type_97, dRF_type_99, dRF_type_100, dRF_type_103, dRF_type_104, dRF_type_105, dRF_type_106, tg_106_6, tz_106_6, dRF_type_109, tg_109_28, tz_109_28, dRF_type_112, dRF_type_113, dRF_type_116, dRF_type_117, dRF_type_120, dRF_type_121, dRF_type_123, dRF_type_124, dRF_type_125, dRF_type_126, dRF_type_127, dRF_type_128, dRF_type_129, dRF_type_132, dRF_type_133, dRF_type_134, dRF_type_137, dRF_type_140, tg_140_m49, tz_140_m49, dRF_type_143, dRF_type_144, dRF_type_147, hz, hg, hbt, lc_eq, h0, lc_lt, h1, lc_le, h2, nI_1]
            exact gw_less (by simp [gLe]) h9
          · have e2 : 126 < b := Int64.not_le.mp h2
            rw [if_pos (Or.inr e2)] at hb2
            obtain ⟨eR, eH⟩ := Bf (by rw [hB, tyB, ← hb2])
            rw [eR, eH]
            refine gw_ev (T := gT0) 60 [11] gRt_m (gTO_0 _ _ _ ⟨Nat.le_refl _, Nat.le_refl _⟩) ?_
            simp only [vc_i, vc_l, vc_r, vc_n, Nat.succ_ne_self, gSd_s, gEd_s, gEd_0, gEd_B, gB_t, gB_f, gGo_c, gGo_n, gAll_n, gAll_c, gwK_s, gCT, gCF, gSet, gSet2, gKill, gTw, gTs, gLs, List.map_cons, List.map_nil, fv0, fv1, fv2, fv3, List.getElem?_cons_zero, List.getElem?_cons_succ, List.set_cons_zero, List.set_cons_succ, List.not_mem_nil, List.mem_cons, Option.toList_some, Option.toList_none, List.cons_append, List.nil_append, if_false, if_true, true_and, and_true, forall_const, true_implies, false_implies, or_false, false_or, not_true_eq_false, not_false_eq_true, and_false, false_and, implies_true, Nat.reduceAdd, Nat.reduceEqDiff, Nat.reduceLT, ↓reduceIte, cls_RF_type, st_aload_n, st_iconst, st_putfield, st_istore_n, st_bipush, st_istore, st_iload, st_ifCond, st_lload_n, st_lshr, st_ldc2_w, st_land, st_lstore, st_lload, st_lconst, st_lcmp, st_ireturn, st_iload_n, st_goto, st_iadd, st_iinc, st_getfield, st_if_icmp, st_l2i, st_i2b, st_bastore, st_dup, (show mRF_type.2.2.1 = 7 from rfl), fp_RF_type_94, kl_RF_240, kl_RF_263, kl_RF_265, gF_RF_267, gF_RF_75, fp_RF_type_267, dRF_type_0, dRF_type_1, ic_0, dRF_type_2, dRF_type_5, dRF_type_6, dRF_type_7, bi_56, dRF_type_9, dRF_type_11, dRF_type_13, tg_13_61, tz_13_61, dRF_type_16, dRF_type_17, dRF_type_19, dRF_type_20, dRF_type_23, dRF_type_24, dRF_type_26, dRF_type_28, lc_0, dRF_type_29, dRF_type_30, tg_30_23, tz_30_23, dRF_type_33, dRF_type_35, dRF_type_38, dRF_type_39, tg_39_12, tz_39_12, dRF_type_42, dRF_type_44, dRF_type_47, dRF_type_48, tg_48_5, tz_48_5, dRF_type_51, ic_m1, dRF_type_52, dRF_type_53, dRF_type_54, dRF_type_56, dRF_type_57, dRF_type_58, tg_58_7, tz_58_7, dRF_type_61, ic_1, dRF_type_62, tg_62_4, tz_62_4, dRF_type_65, dRF_type_66, dRF_type_67, dRF_type_68, ic_m8, dRF_type_71, tg_71_m60, tz_71_m60, dRF_type_74, dRF_type_75, dRF_type_78, dRF_type_79, dRF_type_80, bi_60, dRF_type_82, tg_82_5, tz_82_5, dRF_type_85, dRF_type_86, dRF_type_87, dRF_type_89, dRF_type_91, dRF_type_93, tg_93_50, tz_93_50, dRF_type_96, dRF_type_97, dRF_type_99, dRF_type_100, dRF_type_103, dRF_type_104, dRF_type_105, dRF_type_106, tg_106_6, tz_106_6, dRF_type_109, tg_109_28, tz_109_28, dRF_type_112, dRF_type_113, dRF_type_116, dRF_type_117, dRF_type_120, dRF_type_121, dRF_type_123, dRF_type_124, dRF_type_125, dRF_type_126, dRF_type_127, dRF_type_128, dRF_type_129, dRF_type_132, dRF_type_133, dRF_type_134, dRF_type_137, dRF_type_140, tg_140_m49, tz_140_m49, dRF_type_143, dRF_type_144, dRF_type_147, hz, hg, hbt, lc_eq, h0, lc_lt, h1, lc_le, h2]
            exact rfl
  have h9 := loop1 8 0 (by omega) rfl
  clear loop1 s74
  rw [← shN_8, nI_0] at h9
  refine gC_of (lv0 := [some (.ref o), some (.long w), none, none, none, none, none]) (by decide +kernel) (Nat.le_of_ble_eq_true rfl) (fun q hq => hq) ⟨rfl, rfl⟩ ?_
  refine gw_ev (T := gT0) 60 [11] gRt_m (gTO_0 _ _ _ ⟨Nat.le_refl _, Nat.le_refl _⟩) ?_
  simp only [vc_i, vc_l, vc_r, vc_n, Nat.succ_ne_self, gSd_s, gEd_s, gEd_0, gEd_B, gB_t, gB_f, gGo_c, gGo_n, gAll_n, gAll_c, gwK_s, gCT, gCF, gSet, gSet2, gKill, gTw, gTs, gLs, List.map_cons, List.map_nil, fv0, fv1, fv2, fv3, List.getElem?_cons_zero, List.getElem?_cons_succ, List.set_cons_zero, List.set_cons_succ, List.not_mem_nil, List.mem_cons, Option.toList_some, Option.toList_none, List.cons_append, List.nil_append, if_false, if_true, true_and, and_true, forall_const, true_implies, false_implies, or_false, false_or, not_true_eq_false, not_false_eq_true, and_false, false_and, implies_true, Nat.reduceAdd, Nat.reduceEqDiff, Nat.reduceLT, ↓reduceIte, cls_RF_type, st_aload_n, st_iconst, st_putfield, st_istore_n, st_bipush, st_istore, st_iload, st_ifCond, st_lload_n, st_lshr, st_ldc2_w, st_land, st_lstore, st_lload, st_lconst, st_lcmp, st_ireturn, st_iload_n, st_goto, st_iadd, st_iinc, st_getfield, st_if_icmp, st_l2i, st_i2b, st_bastore, st_dup, (show mRF_type.2.2.1 = 7 from rfl), fp_RF_type_94, kl_RF_240, kl_RF_263, kl_RF_265, gF_RF_267, gF_RF_75, fp_RF_type_267, dRF_type_0, dRF_type_1, ic_0, dRF_type_2, dRF_type_5, dRF_type_6, dRF_type_7, bi_56, dRF_type_9, dRF_type_11, dRF_type_13, tg_13_61, tz_13_61, dRF_type_16, dRF_type_17, dRF_type_19, dRF_type_20, dRF_type_23, dRF_type_24, dRF_type_26, dRF_type_28, lc_0, dRF_type_29, dRF_type_30, tg_30_23, tz_30_23, dRF_type_33, dRF_type_35, dRF_type_38, dRF_type_39, tg_39_12, tz_39_12, dRF_type_42, dRF_type_44, dRF_type_47, dRF_type_48, tg_48_5, tz_48_5, dRF_type_51, ic_m1, dRF_type_52, dRF_type_53, dRF_type_54, dRF_type_56, dRF_type_57, dRF_type_58, tg_58_7, tz_58_7, dRF_type_61, ic_1, dRF_type_62, tg_62_4, tz_62_4, dRF_type_65, dRF_type_66, dRF_type_67, dRF_type_68, ic_m8, dRF_type_71, tg_71_m60, tz_71_m60, dRF_type_74, dRF_type_75, dRF_type_78, dRF_type_79, dRF_type_80, bi_60, dRF_type_82, tg_82_5, tz_82_5, dRF_type_85, dRF_type_86, dRF_type_87, dRF_type_89, dRF_type_91, dRF_type_93, tg_93_50, tz_93_50, dRF_type_96, dRF_type_97, dRF_type_99, dRF_type_100, dRF_type_103, dRF_type_104, dRF_type_105, dRF_type_106, tg_106_6, tz_106_6, dRF_type_109, tg_109_28, tz_109_28, dRF_type_112, dRF_type_113, dRF_type_116, dRF_type_117, dRF_type_120, dRF_type_121, dRF_type_123, dRF_type_124, dRF_type_125, dRF_type_126, dRF_type_127, dRF_type_128, dRF_type_129, dRF_type_132, dRF_type_133, dRF_type_134, dRF_type_137, dRF_type_140, tg_140_m49, tz_140_m49, dRF_type_143, dRF_type_144, dRF_type_147, ho, hlen, ← hG, ← hH]
  exact ⟨fit_i _, h9⟩
