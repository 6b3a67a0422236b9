-- needs 10 11 12 13 14 15 16 17 18 18b 18c 18d 19 21 30 31 32 33
abbrev MS : Type := (Nat → Int32) × (Nat → Int32) × Nat × Nat
def fMA (N M : Int32) (A : Nat → Nat) (rA : Nat) (cnt v : Nat) : List Value := [.int N, .int M, .ref (A 1), .ref (A 2), .int (nI cnt), .long (lN v), .ref rA]
def hMA (cI : ClassId) (A : Nat → Nat) (N M : Int32) (rA : Nat) (s : MS) (h : gH) : gH := gh3 (A 1) (A 2) (A 0) (.inl (cI, 40, .inl s.1)) (.inl (cI, 320, .inl s.2.1)) (.inr (1, fMA N M A rA s.2.2.1 s.2.2.2)) h
def apM (A : Nat → Nat) : Prop := ap3 (A 1) (A 2) (A 0)
def drN (v : Nat) : Nat := 48271 * v % 2147483647
theorem fit_l (x : Int64) : gFit .long (.long x) := ⟨rfl, rfl⟩
set_option maxRecDepth 100000 in
theorem c_MA_draw (l : Launch) (g : gG) (cI : ClassId) (A : Nat → Nat) (hA : apM A) (N M : Int32) (rA k : Nat) (hk : 0 < k ∧ k < 2 ^ 31) (s : MS) (hv : s.2.2.2 < 2147483647) (h : gH) : gC l g mMA_draw (gr 0) [.ref (A 0), .int (nI k)] (hMA cI A N M rA s h) (fun r h' => r = some (.int (nI (drN s.2.2.2 % k))) ∧ h' = hMA cI A N M rA (s.1, s.2.1, s.2.2.1, drN s.2.2.2) h) := by
  obtain ⟨pa, po, cnt, v⟩ := s
  dsimp only at hv ⊢
  obtain ⟨H, hH⟩ : ∃ H, H = hMA cI A N M rA (pa, po, cnt, v) h := ⟨_, rfl⟩
  have k0 : H (A 0) = some (.inr (1, fMA N M A rA cnt v)) := by rw [hH]; exact gh3_g2 hA
  have hfin : gup H (A 0) (.inr (1, fMA N M A rA cnt (drN v))) = hMA cI A N M rA (pa, po, cnt, drN v) h := by rw [hH]; exact gh3_p2 hA
  rw [← hH, ← hfin]
  have e1 : (48271 : Int64) * lN v = lN (48271 * v) := lN_mul 48271 v
  have e2 : lN (48271 * v) - lN (48271 * v) / 2147483647 * 2147483647 = lN (drN v) := pk_lRem (a := 48271 * v) (b := 2147483647) (by omega) (by omega) (by omega)
  have hd : drN v < 2147483647 := Nat.mod_lt _ (by omega)
  have e3 : (nI k).toInt64 = lN k := nI_l hk.2
  have e4 : lN (drN v) - lN (drN v) / lN k * lN k = lN (drN v % k) := pk_lRem (by omega) hk.1 (by omega)
  have z1 : ¬ (2147483647 : Int64) = 0 := by decide
  have z2 : ¬ lN k = 0 := fun z => by
    have : lN k = lN 0 := z
    rw [pk_lEQ (by omega) (by omega)] at this
    omega
  refine gC_of (lv0 := [some (.ref (A 0)), some (.int (nI k))]) (by decide +kernel) (Nat.le_of_ble_eq_true rfl) (fun q hq => hq) ⟨rfl, rfl⟩ ?_
  refine gw_ev (T := gT0) 60 [] gRt_m (gTO_0 _ _ _ ⟨Nat.le_refl _, Nat.le_refl _⟩) ?_
  simp only [vc_i, vc_l, vc_r, vc_n, Nat.succ_ne_self, gSd_s, gEd_s, gEd_0, gEd_B, gB_t, gB_f, gGo_c, gGo_n, gAll_n, gAll_c, gwK_s, gCT, gCF, gSet, gSet2, gKill, gTw, gTs, gLs, List.map_cons, List.map_nil, fv0, fv1, fv2, fv3, List.getElem?_cons_zero, List.getElem?_cons_succ, List.set_cons_zero, List.set_cons_succ, List.not_mem_nil, List.mem_cons, Option.toList_some, Option.toList_none, List.cons_append, List.nil_append, if_false, if_true, true_and, and_true, forall_const, true_implies, false_implies, or_false, false_or, not_true_eq_false, not_false_eq_true, and_false, false_and, implies_true, Nat.reduceAdd, Nat.reduceEqDiff, Nat.reduceLT, ↓reduceIte, cls_MA_draw, st_aload_n, st_ldc2_w, st_getfield, st_lmul, st_lrem, st_putfield, st_iload_n, st_i2l, st_l2i, st_ireturn, (show mMA_draw.2.2.1 = 2 from rfl), kl_MA_74, gF_MA_32, kl_MA_76, fp_MA_draw_32, dMA_draw_0, dMA_draw_1, dMA_draw_4, dMA_draw_5, dMA_draw_8, dMA_draw_9, dMA_draw_12, dMA_draw_13, dMA_draw_16, dMA_draw_17, dMA_draw_20, dMA_draw_21, dMA_draw_22, dMA_draw_23, dMA_draw_24, k0, fMA, gup_s, List.length_cons, List.length_nil, e1, e2, e3, e4, lN_i]
  exact ⟨z1, fit_l _, z2, rfl⟩
def pairB (k x y : Nat) : Bool := if k = 0 ∨ k = 1 then decide (x < y ∧ ¬ x / 10 = y / 10) else if k = 3 ∨ k = 4 then decide (x < y) else decide (¬ x = y)
set_option maxRecDepth 100000 in
set_option maxHeartbeats 2000000 in
theorem c_MA_isPair (l : Launch) (g : gG) (k x y : Nat) (hk : k < 2 ^ 31) (hx : x < 2 ^ 31) (hy : y < 2 ^ 31) (h : gH) : gC l g mMA_isPair (gr 0) [.int (nI k), .int (nI x), .int (nI y)] h (fun r h' => r = some (.int (bI (pairB k x y))) ∧ h' = h) := by
  have hkt := nI_toInt hk
  have d1 : nI x / 10 = nI (x / 10) := pk_div (d := 10) hx (by omega) (by omega)
  have d2 : nI y / 10 = nI (y / 10) := pk_div (d := 10) hy (by omega) (by omega)
  have z10 : ¬ (10 : Int32) = 0 := by decide
  have q1 := nI_eq hx hy
  have q2 := nI_leI hy hx
  have q3 : (nI (x / 10) = nI (y / 10)) ↔ x / 10 = y / 10 := nI_eq (by omega) (by omega)
  refine gC_of (lv0 := [some (.int (nI k)), some (.int (nI x)), some (.int (nI y))]) (by decide +kernel) (Nat.le_of_ble_eq_true rfl) (fun q hq => hq) ⟨rfl, rfl⟩ ?_
  refine gw_ev (T := gT0) 60 [] gRt_m (gTO_0 _ _ _ ⟨Nat.le_refl _, Nat.le_refl _⟩) ?_
  simp only [vc_i, vc_l, vc_r, vc_n, Nat.succ_ne_self, gSd_s, gEd_s, gEd_0, gEd_B, gB_t, gB_f, gGo_c, gGo_n, gAll_n, gAll_c, gwK_s, gCT, gCF, gSet, gSet2, gKill, gTw, gTs, gLs, List.map_cons, List.map_nil, fv0, fv1, fv2, fv3, List.getElem?_cons_zero, List.getElem?_cons_succ, List.set_cons_zero, List.set_cons_succ, List.not_mem_nil, List.mem_cons, Option.toList_some, Option.toList_none, List.cons_append, List.nil_append, if_false, if_true, true_and, and_true, forall_const, true_implies, false_implies, or_false, false_or, not_true_eq_false, not_false_eq_true, and_false, false_and, implies_true, Nat.reduceAdd, Nat.reduceEqDiff, Nat.reduceLT, ↓reduceIte, cls_MA_isPair, st_iload_n, st_tableswitch, st_if_icmp, st_bipush, st_idiv, st_iconst, st_goto, st_ireturn, (show mMA_isPair.2.2.1 = 3 from rfl), dMA_isPair_0, dMA_isPair_1, tg_1_68, tz_1_68, tg_1_35, tz_1_35, tg_1_57, tz_1_57, dMA_isPair_36, dMA_isPair_37, dMA_isPair_38, tg_38_18, tz_38_18, dMA_isPair_41, dMA_isPair_42, bi_10, dMA_isPair_44, dMA_isPair_45, dMA_isPair_46, dMA_isPair_48, dMA_isPair_49, tg_49_7, tz_49_7, dMA_isPair_52, ic_1, dMA_isPair_53, tg_53_4, tz_53_4, dMA_isPair_56, ic_0, dMA_isPair_57, dMA_isPair_58, dMA_isPair_59, dMA_isPair_60, tg_60_7, tz_60_7, dMA_isPair_63, dMA_isPair_64, tg_64_4, tz_64_4, dMA_isPair_67, dMA_isPair_68, dMA_isPair_69, dMA_isPair_70, dMA_isPair_71, tg_71_7, tz_71_7, dMA_isPair_74, dMA_isPair_75, tg_75_4, tz_75_4, dMA_isPair_78, dMA_isPair_79, Int.reduceAdd, d1, d2, z10, q1, q2, q3, hkt]
  refine ⟨by decide, ?_⟩
  unfold pairB
  repeat' first | (refine ⟨?_, ?_⟩) | (intro _)
  all_goals first | rfl | (have hk0 : k = 0 := by omega
                           subst hk0
                           simp [bI, *]
                           try omega) | (have hk0 : k = 1 := by omega
                                         subst hk0
                                         simp [bI, *]
                                         try omega) | (have hk0 : k = 2 := by omega
                                                       subst hk0
                                                       simp [bI, *]
                                                       try omega) | (have hk0 : k = 3 := by omega
                                                                     subst hk0
                                                                     simp [bI, *]
                                                                     try omega) | (have hk0 : k = 4 := by omega
                                                                                   subst hk0
                                                                                   simp [bI, *]
                                                                                   try omega) | (have hk0 : ¬ (k = 0 ∨ k = 1) ∧ ¬ (k = 3 ∨ k = 4) := by omega
                                                                                                 simp [bI, hk0.1, hk0.2, *]
                                                                                                 try omega)
