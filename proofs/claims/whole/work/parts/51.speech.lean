-- needs 10 11 12 13 14 15 16 17 18 18d 19 21 40 50
abbrev SS : Type := (Nat → Int64) × (Nat → Int32) × (Nat → Int32) × (Nat → Int32) × Nat × Nat × Int32 × Int32 × Nat × Nat × Nat
def fSP (A : Nat → Nat) (ll tl : Nat) (fp pr : Int32) (ws we le : Nat) : List Value := [.ref (A 1), .ref (A 2), .int (nI ll), .ref (A 3), .int (nI tl), .int fp, .int pr, .ref (A 4), .int (nI ws), .int (nI we), .int (nI le)]
def hSP (cL cI : ClassId) (A : Nat → Nat) (s : SS) (h : gH) : gH := gh5 (A 1) (A 2) (A 3) (A 4) (A 0) (.inl (cL, 40, .inr (.inl s.1))) (.inl (cI, 60, .inl s.2.1)) (.inl (cI, 60, .inl s.2.2.1)) (.inl (cI, 5, .inl s.2.2.2.1)) (.inr (3, fSP A s.2.2.2.2.1 s.2.2.2.2.2.1 s.2.2.2.2.2.2.1 s.2.2.2.2.2.2.2.1 s.2.2.2.2.2.2.2.2.1 s.2.2.2.2.2.2.2.2.2.1 s.2.2.2.2.2.2.2.2.2.2)) h
def apS (A : Nat → Nat) : Prop := ap5 (A 1) (A 2) (A 3) (A 4) (A 0)
section HSP
variable {cL cI : ClassId} {A : Nat → Nat} {s : SS} {h H : gH}
theorem hSP_1 (hA : apS A) (hH : H = hSP cL cI A s h) : H (A 1) = some (.inl (cL, 40, .inr (.inl s.1))) := by rw [hH]; exact gh5_g0 hA
theorem hSP_2 (hA : apS A) (hH : H = hSP cL cI A s h) : H (A 2) = some (.inl (cI, 60, .inl s.2.1)) := by rw [hH]; exact gh5_g1 hA
theorem hSP_3 (hA : apS A) (hH : H = hSP cL cI A s h) : H (A 3) = some (.inl (cI, 60, .inl s.2.2.1)) := by rw [hH]; exact gh5_g2 hA
theorem hSP_4 (hA : apS A) (hH : H = hSP cL cI A s h) : H (A 4) = some (.inl (cI, 5, .inl s.2.2.2.1)) := by rw [hH]; exact gh5_g3 hA
theorem hSP_0 (hA : apS A) (hH : H = hSP cL cI A s h) : H (A 0) = some (.inr (3, fSP A s.2.2.2.2.1 s.2.2.2.2.2.1 s.2.2.2.2.2.2.1 s.2.2.2.2.2.2.2.1 s.2.2.2.2.2.2.2.2.1 s.2.2.2.2.2.2.2.2.2.1 s.2.2.2.2.2.2.2.2.2.2)) := by rw [hH]; exact gh5_g4 hA
end HSP
def lackF (nm : Nat → Int64) (x : Int32) : Bool := decide (¬ x = 0 ∧ nm x.toNatClampNeg = 0)
set_option maxRecDepth 100000 in
theorem c_SP_lacksName (l : Launch) (g : gG) (cL cI : ClassId) (hcL : (cL, FieldType.long) ∈ g.2.1) (A : Nat → Nat) (hA : apS A) (x : Int32) (hx : vp_in x 40) (s : SS) (h H : gH) (hH : H = hSP cL cI A s h) : gC l g mSP_lacksName (gr 0) [.ref (A 0), .int x] H (fun r h' => r = some (.int (bI (lackF s.1 x))) ∧ h' = H) := by
  have k0 := hSP_0 hA hH
  have k1 := hSP_1 hA hH
  refine gC_of (lv0 := [some (.ref (A 0)), some (.int x)]) (by decide +kernel) (Nat.le_of_ble_eq_true rfl) (fun q hq => hq) ⟨rfl, rfl⟩ ?_
  by_cases h0 : x = 0
  · have e0 : (x = 0) = True := eq_true h0
    refine gw_ev (T := gT0) 60 [] gRt_m (gTO_0 _ _ _ ⟨Nat.le_refl _, Nat.le_refl _⟩) ?_
    simp only [vc_i, vc_l, vc_r, vc_n, Nat.succ_ne_self, gSd_s, gEd_s, gEd_0, gEd_B, gB_t, gB_f, gGo_c, gGo_n, gAll_n, gAll_c, gwK_s, gCT, gCF, gSet, gSet2, gKill, gTw, gTs, gLs, List.map_cons, List.map_nil, fv0, fv1, fv2, fv3, List.getElem?_cons_zero, List.getElem?_cons_succ, List.set_cons_zero, List.set_cons_succ, List.not_mem_nil, List.mem_cons, Option.toList_some, Option.toList_none, List.cons_append, List.nil_append, if_false, if_true, true_and, and_true, forall_const, true_implies, false_implies, or_false, false_or, not_true_eq_false, not_false_eq_true, and_false, false_and, implies_true, Nat.reduceAdd, Nat.reduceEqDiff, Nat.reduceLT, ↓reduceIte, cls_SP_lacksName, st_iload_n, st_ifCond, st_aload_n, st_getfield, st_laload, st_lconst, st_lcmp, st_iconst, st_goto, st_ireturn, (show mSP_lacksName.2.2.1 = 2 from rfl), gF_SP_9, dSP_lacksName_0, dSP_lacksName_1, tg_1_18, tz_1_18, dSP_lacksName_4, dSP_lacksName_5, dSP_lacksName_8, dSP_lacksName_9, dSP_lacksName_10, lc_0, dSP_lacksName_11, dSP_lacksName_12, tg_12_7, tz_12_7, dSP_lacksName_15, ic_1, dSP_lacksName_16, tg_16_4, tz_16_4, dSP_lacksName_19, ic_0, dSP_lacksName_20, e0]
    exact ⟨rfl, by simp [lackF, bI, h0]⟩
  · by_cases h1 : s.1 x.toNatClampNeg = 0
    · have e1 : (s.1 x.toNatClampNeg = 0) = True := eq_true h1
      refine gw_ev (T := gT0) 60 [] gRt_m (gTO_0 _ _ _ ⟨Nat.le_refl _, Nat.le_refl _⟩) ?_
      simp only [vc_i, vc_l, vc_r, vc_n, Nat.succ_ne_self, gSd_s, gEd_s, gEd_0, gEd_B, gB_t, gB_f, gGo_c, gGo_n, gAll_n, gAll_c, gwK_s, gCT, gCF, gSet, gSet2, gKill, gTw, gTs, gLs, List.map_cons, List.map_nil, fv0, fv1, fv2, fv3, List.getElem?_cons_zero, List.getElem?_cons_succ, List.set_cons_zero, List.set_cons_succ, List.not_mem_nil, List.mem_cons, Option.toList_some, Option.toList_none, List.cons_append, List.nil_append, if_false, if_true, true_and, and_true, forall_const, true_implies, false_implies, or_false, false_or, not_true_eq_false, not_false_eq_true, and_false, false_and, implies_true, Nat.reduceAdd, Nat.reduceEqDiff, Nat.reduceLT, ↓reduceIte, cls_SP_lacksName, st_iload_n, st_ifCond, st_aload_n, st_getfield, st_laload, st_lconst, st_lcmp, st_iconst, st_goto, st_ireturn, (show mSP_lacksName.2.2.1 = 2 from rfl), gF_SP_9, dSP_lacksName_0, dSP_lacksName_1, tg_1_18, tz_1_18, dSP_lacksName_4, dSP_lacksName_5, dSP_lacksName_8, dSP_lacksName_9, dSP_lacksName_10, lc_0, dSP_lacksName_11, dSP_lacksName_12, tg_12_7, tz_12_7, dSP_lacksName_15, ic_1, dSP_lacksName_16, tg_16_4, tz_16_4, dSP_lacksName_19, ic_0, dSP_lacksName_20, h0, k0, k1, fSP, lc_eq, e1]
      exact ⟨⟨hcL, hx⟩, rfl, by simp [lackF, bI, h0, h1]⟩
    · refine gw_ev (T := gT0) 60 [] gRt_m (gTO_0 _ _ _ ⟨Nat.le_refl _, Nat.le_refl _⟩) ?_
      simp only [vc_i, vc_l, vc_r, vc_n, Nat.succ_ne_self, gSd_s, gEd_s, gEd_0, gEd_B, gB_t, gB_f, gGo_c, gGo_n, gAll_n, gAll_c, gwK_s, gCT, gCF, gSet, gSet2, gKill, gTw, gTs, gLs, List.map_cons, List.map_nil, fv0, fv1, fv2, fv3, List.getElem?_cons_zero, List.getElem?_cons_succ, List.set_cons_zero, List.set_cons_succ, List.not_mem_nil, List.mem_cons, Option.toList_some, Option.toList_none, List.cons_append, List.nil_append, if_false, if_true, true_and, and_true, forall_const, true_implies, false_implies, or_false, false_or, not_true_eq_false, not_false_eq_true, and_false, false_and, implies_true, Nat.reduceAdd, Nat.reduceEqDiff, Nat.reduceLT, ↓reduceIte, cls_SP_lacksName, st_iload_n, st_ifCond, st_aload_n, st_getfield, st_laload, st_lconst, st_lcmp, st_iconst, st_goto, st_ireturn, (show mSP_lacksName.2.2.1 = 2 from rfl), gF_SP_9, dSP_lacksName_0, dSP_lacksName_1, tg_1_18, tz_1_18, dSP_lacksName_4, dSP_lacksName_5, dSP_lacksName_8, dSP_lacksName_9, dSP_lacksName_10, lc_0, dSP_lacksName_11, dSP_lacksName_12, tg_12_7, tz_12_7, dSP_lacksName_15, ic_1, dSP_lacksName_16, tg_16_4, tz_16_4, dSP_lacksName_19, ic_0, dSP_lacksName_20, h0, k0, k1, fSP, lc_eq, h1]
      exact ⟨⟨hcL, hx⟩, rfl, by simp [lackF, bI, h1]⟩
def putF (c : Int32) (s : SS) : SS := if s.2.2.2.2.2.1 < 60 then (s.1, s.2.1, upd s.2.2.1 s.2.2.2.2.2.1 c, s.2.2.2.1, s.2.2.2.2.1, s.2.2.2.2.2.1 + 1, s.2.2.2.2.2.2) else s
theorem putF_tl {c : Int32} {s : SS} (h : s.2.2.2.2.2.1 ≤ 60) : (putF c s).2.2.2.2.2.1 ≤ 60 := by
  unfold putF
  split
  · rename_i q
    show s.2.2.2.2.2.1 + 1 ≤ 60
    omega
  · exact h
set_option maxRecDepth 100000 in
theorem c_SP_put (l : Launch) (g : gG) (cL cI : ClassId) (hcI : (cI, FieldType.int) ∈ g.2.1) (A : Nat → Nat) (hA : apS A) (c : Int32) (s : SS) (hs : s.2.2.2.2.2.1 ≤ 60) (h H : gH) (hH : H = hSP cL cI A s h) : gC l g mSP_put (gr 0) [.ref (A 0), .int c] H (fun r h' => r = none ∧ h' = hSP cL cI A (putF c s) h) := by
  have k0 := hSP_0 hA hH
  have k3 := hSP_3 hA hH
  have d30 : A 0 ≠ A 3 := Ne.symm hA.2.2.2.2.2.2.2.2.1
  refine gC_of (lv0 := [some (.ref (A 0)), some (.int c)]) (by decide +kernel) (Nat.le_of_ble_eq_true rfl) (fun q hq => hq) ⟨rfl, rfl⟩ ?_
  by_cases h1 : s.2.2.2.2.2.1 < 60
  · have hz : ¬ (60 : Int32) ≤ nI s.2.2.2.2.2.1 := nI_ge (b := 60) h1 (by omega)
    have ck : (nI s.2.2.2.2.2.1).toNatClampNeg = s.2.2.2.2.2.1 := nI_clamp (by omega)
    have vk : vp_in (nI s.2.2.2.2.2.1) 60 := vp_in_nI h1 (by omega)
    have hfin : gup (gup H (A 3) (.inl (cI, 60, .inl (upd s.2.2.1 s.2.2.2.2.2.1 c)))) (A 0) (.inr (3, fSP A s.2.2.2.2.1 (s.2.2.2.2.2.1 + 1) s.2.2.2.2.2.2.1 s.2.2.2.2.2.2.2.1 s.2.2.2.2.2.2.2.2.1 s.2.2.2.2.2.2.2.2.2.1 s.2.2.2.2.2.2.2.2.2.2)) = hSP cL cI A (putF c s) h := by
      rw [putF, if_pos h1, hH]
      unfold hSP
      rw [gh5_p2 hA]
      exact gh5_p4 hA
    rw [← hfin]
    refine gw_ev (T := gT0) 60 [] gRt_m (gTO_0 _ _ _ ⟨Nat.le_refl _, Nat.le_refl _⟩) ?_
    simp only [vc_i, vc_l, vc_r, vc_n, Nat.succ_ne_self, gSd_s, gEd_s, gEd_0, gEd_B, gB_t, gB_f, gGo_c, gGo_n, gAll_n, gAll_c, gwK_s, gCT, gCF, gSet, gSet2, gKill, gTw, gTs, gLs, List.map_cons, List.map_nil, fv0, fv1, fv2, fv3, List.getElem?_cons_zero, List.getElem?_cons_succ, List.set_cons_zero, List.set_cons_succ, List.not_mem_nil, List.mem_cons, Option.toList_some, Option.toList_none, List.cons_append, List.nil_append, if_false, if_true, true_and, and_true, forall_const, true_implies, false_implies, or_false, false_or, not_true_eq_false, not_false_eq_true, and_false, false_and, implies_true, Nat.reduceAdd, Nat.reduceEqDiff, Nat.reduceLT, ↓reduceIte, cls_SP_put, st_aload_n, st_getfield, st_bipush, st_if_icmp, st_iload_n, st_iastore, st_dup, st_iconst, st_iadd, st_putfield, st_return_, (show mSP_put.2.2.1 = 2 from rfl), gF_SP_67, gF_SP_19, fp_SP_put_67, dSP_put_0, dSP_put_1, dSP_put_4, bi_60, dSP_put_6, tg_6_23, tz_6_23, dSP_put_9, dSP_put_10, dSP_put_13, dSP_put_14, dSP_put_17, dSP_put_18, dSP_put_19, dSP_put_20, dSP_put_21, dSP_put_24, ic_1, dSP_put_25, dSP_put_26, dSP_put_29, k0, k3, fSP, hz, ck, gup_n _ _ d30, List.length_cons, List.length_nil, nI_1]
    exact ⟨⟨hcI, vk⟩, fit_i _, rfl⟩
  · have hz : (60 : Int32) ≤ nI s.2.2.2.2.2.1 := nI_le (a := 60) (by omega) (by omega)
    rw [putF, if_neg h1]
    refine gw_ev (T := gT0) 60 [] gRt_m (gTO_0 _ _ _ ⟨Nat.le_refl _, Nat.le_refl _⟩) ?_
    simp only [vc_i, vc_l, vc_r, vc_n, Nat.succ_ne_self, gSd_s, gEd_s, gEd_0, gEd_B, gB_t, gB_f, gGo_c, gGo_n, gAll_n, gAll_c, gwK_s, gCT, gCF, gSet, gSet2, gKill, gTw, gTs, gLs, List.map_cons, List.map_nil, fv0, fv1, fv2, fv3, List.getElem?_cons_zero, List.getElem?_cons_succ, List.set_cons_zero, List.set_cons_succ, List.not_mem_nil, List.mem_cons, Option.toList_some, Option.toList_none, List.cons_append, List.nil_append, if_false, if_true, true_and, and_true, forall_const, true_implies, false_implies, or_false, false_or, not_true_eq_false, not_false_eq_true, and_false, false_and, implies_true, Nat.reduceAdd, Nat.reduceEqDiff, Nat.reduceLT, ↓reduceIte, cls_SP_put, st_aload_n, st_getfield, st_bipush, st_if_icmp, st_iload_n, st_iastore, st_dup, st_iconst, st_iadd, st_putfield, st_return_, (show mSP_put.2.2.1 = 2 from rfl), gF_SP_67, gF_SP_19, fp_SP_put_67, dSP_put_0, dSP_put_1, dSP_put_4, bi_60, dSP_put_6, tg_6_23, tz_6_23, dSP_put_9, dSP_put_10, dSP_put_13, dSP_put_14, dSP_put_17, dSP_put_18, dSP_put_19, dSP_put_20, dSP_put_21, dSP_put_24, ic_1, dSP_put_25, dSP_put_26, dSP_put_29, k0, fSP, hz]
    exact ⟨rfl, hH⟩
def pwB (s : SS) (b : Int32) : SS := if b = 0 then s else putF b s
def pwF (w : Int64) (s : SS) : SS := (byL w 8).foldl pwB (if 0 < s.2.2.2.2.2.1 then putF 32 s else s)
theorem pwB_tl {b : Int32} {s : SS} (h : s.2.2.2.2.2.1 ≤ 60) : (pwB s b).2.2.2.2.2.1 ≤ 60 := by
  unfold pwB
  split
  · exact h
  · exact putF_tl h
theorem pwF_tl {w : Int64} {s : SS} (h : s.2.2.2.2.2.1 ≤ 60) : (pwF w s).2.2.2.2.2.1 ≤ 60 := by
  have key : ∀ (L : List Int32) (s : SS), s.2.2.2.2.2.1 ≤ 60 → (L.foldl pwB s).2.2.2.2.2.1 ≤ 60 := by
    intro L
    induction L with
    | nil => exact fun s h => h
    | cons b L ih => exact fun s h => ih _ (pwB_tl h)
  refine key _ _ ?_
  split
  · exact putF_tl h
  · exact h
set_option maxRecDepth 100000 in
theorem c_SP_putWord (l : Launch) (g : gG) (cL cI : ClassId) (hcI : (cI, FieldType.int) ∈ g.2.1) (A : Nat → Nat) (hA : apS A) (w : Int64) (s0 : SS) (hs0 : s0.2.2.2.2.2.1 ≤ 60) (h H0 : gH) (hH0 : H0 = hSP cL cI A s0 h) : gC l g mSP_putWord (gr 1) [.ref (A 0), .long w] H0 (fun r h' => r = none ∧ h' = hSP cL cI A (pwF w s0) h) := by
  obtain ⟨T, hT⟩ : ∃ T, T = pwF w s0 := ⟨_, rfl⟩
  rw [← hT]
  have loop : ∀ (m : Nat) (s : SS) (H : gH), m ≤ 8 → H = hSP cL cI A s h → s.2.2.2.2.2.1 ≤ 60 → (byL w m).foldl pwB s = T → gw l g mSP_putWord (gr 1) H0 (gZm g H0 0 0 (fun r h' => r = none ∧ h' = hSP cL cI A T h)) 0 0 16 [some (.ref (A 0)), some (.long w), none, some (.int (shN m)), none] [] H := by
    intro m
    induction m with
    | zero =>
      intro s H hm hH hs hb
      have hz := shN_0
      refine gw_ev (T := gT0) 60 [16] gRt_m (gTO_0 _ _ _ ⟨Nat.le_refl _, Nat.le_refl _⟩) ?_
      simp only [vc_i, vc_l, vc_r, vc_n, Nat.succ_ne_self, gSd_s, gEd_s, gEd_0, gEd_B, gB_t, gB_f, gGo_c, gGo_n, gAll_n, gAll_c, gwK_s, gCT, gCF, gSet, gSet2, gKill, gTw, gTs, gLs, List.map_cons, List.map_nil, fv0, fv1, fv2, fv3, List.getElem?_cons_zero, List.getElem?_cons_succ, List.set_cons_zero, List.set_cons_succ, List.not_mem_nil, List.mem_cons, Option.toList_some, Option.toList_none, List.cons_append, List.nil_append, if_false, if_true, true_and, and_true, forall_const, true_implies, false_implies, or_false, false_or, not_true_eq_false, not_false_eq_true, and_false, false_and, implies_true, Nat.reduceAdd, Nat.reduceEqDiff, Nat.reduceLT, ↓reduceIte, cls_SP_putWord, st_aload_n, st_getfield, st_ifCond, st_bipush, st_invokevirtual, st_istore_n, st_iload_n, st_lload_n, st_lshr, st_ldc2_w, st_land, st_l2i, st_istore, st_iload, st_iinc, st_goto, st_return_, (show mSP_putWord.2.2.1 = 5 from rfl), gF_SP_67, tn_SP_73, (show gT0 56 = none from rfl), kl_SP_43, dSP_putWord_0, dSP_putWord_1, dSP_putWord_4, tg_4_9, tz_4_9, dSP_putWord_7, dSP_putWord_8, bi_32, dSP_putWord_10, dSP_putWord_13, bi_56, dSP_putWord_15, dSP_putWord_16, dSP_putWord_17, tg_17_30, tz_17_30, dSP_putWord_20, dSP_putWord_21, dSP_putWord_22, dSP_putWord_23, dSP_putWord_26, dSP_putWord_27, dSP_putWord_28, dSP_putWord_30, dSP_putWord_32, tg_32_9, tz_32_9, dSP_putWord_35, dSP_putWord_36, dSP_putWord_38, dSP_putWord_41, ic_m8, dSP_putWord_44, tg_44_m28, tz_44_m28, dSP_putWord_47, hz]
      refine ⟨rfl, ?_⟩
      rw [hH, ← hb]
      rfl
    | succ m ih =>
      intro s H hm hH hs hb
      have hz := shN_ge m (by omega)
      have hg := shN_go m (by omega)
      have hb2 : (byL w m).foldl pwB (pwB s (byF w (shN (m + 1)))) = T := hb
      have hbt : ((w >>> ((shN (m + 1)).toInt64 &&& 63)) &&& 255).toInt32 = byF w (shN (m + 1)) := rfl
      generalize byF w (shN (m + 1)) = b at hb2 hbt
      have k0 := hSP_0 hA hH
      by_cases h0 : b = 0
      · have e0 : (b = 0) = True := eq_true h0
        rw [show pwB s b = s from if_pos h0] at hb2
        refine gw_ev (T := gT0) 60 [16] gRt_m (gTO_0 _ _ _ ⟨Nat.le_refl _, Nat.le_refl _⟩) ?_
        simp only [vc_i, vc_l, vc_r, vc_n, Nat.succ_ne_self, gSd_s, gEd_s, gEd_0, gEd_B, gB_t, gB_f, gGo_c, gGo_n, gAll_n, gAll_c, gwK_s, gCT, gCF, gSet, gSet2, gKill, gTw, gTs, gLs, List.map_cons, List.map_nil, fv0, fv1, fv2, fv3, List.getElem?_cons_zero, List.getElem?_cons_succ, List.set_cons_zero, List.set_cons_succ, List.not_mem_nil, List.mem_cons, Option.toList_some, Option.toList_none, List.cons_append, List.nil_append, if_false, if_true, true_and, and_true, forall_const, true_implies, false_implies, or_false, false_or, not_true_eq_false, not_false_eq_true, and_false, false_and, implies_true, Nat.reduceAdd, Nat.reduceEqDiff, Nat.reduceLT, ↓reduceIte, cls_SP_putWord, st_aload_n, st_getfield, st_ifCond, st_bipush, st_invokevirtual, st_istore_n, st_iload_n, st_lload_n, st_lshr, st_ldc2_w, st_land, st_l2i, st_istore, st_iload, st_iinc, st_goto, st_return_, (show mSP_putWord.2.2.1 = 5 from rfl), gF_SP_67, tn_SP_73, (show gT0 56 = none from rfl), kl_SP_43, dSP_putWord_0, dSP_putWord_1, dSP_putWord_4, tg_4_9, tz_4_9, dSP_putWord_7, dSP_putWord_8, bi_32, dSP_putWord_10, dSP_putWord_13, bi_56, dSP_putWord_15, dSP_putWord_16, dSP_putWord_17, tg_17_30, tz_17_30, dSP_putWord_20, dSP_putWord_21, dSP_putWord_22, dSP_putWord_23, dSP_putWord_26, dSP_putWord_27, dSP_putWord_28, dSP_putWord_30, dSP_putWord_32, tg_32_9, tz_32_9, dSP_putWord_35, dSP_putWord_36, dSP_putWord_38, dSP_putWord_41, ic_m8, dSP_putWord_44, tg_44_m28, tz_44_m28, dSP_putWord_47, hz, hg, hbt, e0]
        exact gw_less (lv' := [some (.ref (A 0)), some (.long w), none, some (.int (shN m)), none]) (by simp [gLe]) (ih s H (by omega) hH hs hb2)
      · rw [show pwB s b = putF b s from if_neg h0] at hb2
        refine gw_ev (T := gT0) 60 [16] gRt_m (gTO_0 _ _ _ ⟨Nat.le_refl _, Nat.le_refl _⟩) ?_
        simp only [vc_i, vc_l, vc_r, vc_n, Nat.succ_ne_self, gSd_s, gEd_s, gEd_0, gEd_B, gB_t, gB_f, gGo_c, gGo_n, gAll_n, gAll_c, gwK_s, gCT, gCF, gSet, gSet2, gKill, gTw, gTs, gLs, List.map_cons, List.map_nil, fv0, fv1, fv2, fv3, List.getElem?_cons_zero, List.getElem?_cons_succ, List.set_cons_zero, List.set_cons_succ, List.not_mem_nil, List.mem_cons, Option.toList_some, Option.toList_none, List.cons_append, List.nil_append, if_false, if_true, true_and, and_true, forall_const, true_implies, false_implies, or_false, false_or, not_true_eq_false, not_false_eq_true, and_false, false_and, implies_true, Nat.reduceAdd, Nat.reduceEqDiff, Nat.reduceLT, ↓reduceIte, cls_SP_putWord, st_aload_n, st_getfield, st_ifCond, st_bipush, st_invokevirtual, st_istore_n, st_iload_n, st_lload_n, st_lshr, st_ldc2_w, st_land, st_l2i, st_istore, st_iload, st_iinc, st_goto, st_return_, (show mSP_putWord.2.2.1 = 5 from rfl), gF_SP_67, tn_SP_73, (show gT0 56 = none from rfl), kl_SP_43, dSP_putWord_0, dSP_putWord_1, dSP_putWord_4, tg_4_9, tz_4_9, dSP_putWord_7, dSP_putWord_8, bi_32, dSP_putWord_10, dSP_putWord_13, bi_56, dSP_putWord_15, dSP_putWord_16, dSP_putWord_17, tg_17_30, tz_17_30, dSP_putWord_20, dSP_putWord_21, dSP_putWord_22, dSP_putWord_23, dSP_putWord_26, dSP_putWord_27, dSP_putWord_28, dSP_putWord_30, dSP_putWord_32, tg_32_9, tz_32_9, dSP_putWord_35, dSP_putWord_36, dSP_putWord_38, dSP_putWord_41, ic_m8, dSP_putWord_44, tg_44_m28, tz_44_m28, dSP_putWord_47, hz, hg, hbt, h0]
        refine gw_cV (r := []) dSP_putWord_38 (c_SP_put l g cL cI hcI A hA b s hs h H hH) rfl (k0) rfl wc_SP_put wl_SP_73 wi_SP_put ws_SP_put wn_SP (by show _ ∧ _ ∧ _ = some 1; decide +kernel) (by decide) (gr_ge (by first | decide | omega)) (Nat.le_of_ble_eq_true rfl) ⟨Nat.le_refl _, Nat.le_refl _⟩ ?_
        refine gw_ev (T := gT0) 60 [16] gRt_m (gTO_0 _ _ _ ⟨Nat.le_refl _, Nat.le_refl _⟩) ?_
        simp only [vc_i, vc_l, vc_r, vc_n, Nat.succ_ne_self, gSd_s, gEd_s, gEd_0, gEd_B, gB_t, gB_f, gGo_c, gGo_n, gAll_n, gAll_c, gwK_s, gCT, gCF, gSet, gSet2, gKill, gTw, gTs, gLs, List.map_cons, List.map_nil, fv0, fv1, fv2, fv3, List.getElem?_cons_zero, List.getElem?_cons_succ, List.set_cons_zero, List.set_cons_succ, List.not_mem_nil, List.mem_cons, Option.toList_some, Option.toList_none, List.cons_append, List.nil_append, if_false, if_true, true_and, and_true, forall_const, true_implies, false_implies, or_false, false_or, not_true_eq_false, not_false_eq_true, and_false, false_and, implies_true, Nat.reduceAdd, Nat.reduceEqDiff, Nat.reduceLT, ↓reduceIte, cls_SP_putWord, st_aload_n, st_getfield, st_ifCond, st_bipush, st_invokevirtual, st_istore_n, st_iload_n, st_lload_n, st_lshr, st_ldc2_w, st_land, st_l2i, st_istore, st_iload, st_iinc, st_goto, st_return_, (show mSP_putWord.2.2.1 = 5 from rfl), gF_SP_67, tn_SP_73, (show gT0 56 = none from rfl), kl_SP_43, dSP_putWord_0, dSP_putWord_1, dSP_putWord_4, tg_4_9, tz_4_9, dSP_putWord_7, dSP_putWord_8, bi_32, dSP_putWord_10, dSP_putWord_13, bi_56, dSP_putWord_15, dSP_putWord_16, dSP_putWord_17, tg_17_30, tz_17_30, dSP_putWord_20, dSP_putWord_21, dSP_putWord_22, dSP_putWord_23, dSP_putWord_26, dSP_putWord_27, dSP_putWord_28, dSP_putWord_30, dSP_putWord_32, tg_32_9, tz_32_9, dSP_putWord_35, dSP_putWord_36, dSP_putWord_38, dSP_putWord_41, ic_m8, dSP_putWord_44, tg_44_m28, tz_44_m28, dSP_putWord_47, hg]
        exact gw_less (lv' := [some (.ref (A 0)), some (.long w), none, some (.int (shN m)), none]) (by simp [gLe]) (ih (putF b s) _ (by omega) rfl (putF_tl hs) hb2)
  have k0 := hSP_0 hA hH0
  refine gC_of (lv0 := [some (.ref (A 0)), some (.long w), none, none, none]) (by decide +kernel) (Nat.le_of_ble_eq_true rfl) (fun q hq => hq) ⟨rfl, rfl⟩ ?_
  by_cases h1 : 0 < s0.2.2.2.2.2.1
  · have hz : ¬ nI s0.2.2.2.2.2.1 ≤ 0 := nI_nle h1 (by omega)
    have hT2 : (byL w 8).foldl pwB (putF 32 s0) = T := by rw [hT, pwF, if_pos h1]
    refine gw_ev (T := gT0) 60 [16] gRt_m (gTO_0 _ _ _ ⟨Nat.le_refl _, Nat.le_refl _⟩) ?_
    simp only [vc_i, vc_l, vc_r, vc_n, Nat.succ_ne_self, gSd_s, gEd_s, gEd_0, gEd_B, gB_t, gB_f, gGo_c, gGo_n, gAll_n, gAll_c, gwK_s, gCT, gCF, gSet, gSet2, gKill, gTw, gTs, gLs, List.map_cons, List.map_nil, fv0, fv1, fv2, fv3, List.getElem?_cons_zero, List.getElem?_cons_succ, List.set_cons_zero, List.set_cons_succ, List.not_mem_nil, List.mem_cons, Option.toList_some, Option.toList_none, List.cons_append, List.nil_append, if_false, if_true, true_and, and_true, forall_const, true_implies, false_implies, or_false, false_or, not_true_eq_false, not_false_eq_true, and_false, false_and, implies_true, Nat.reduceAdd, Nat.reduceEqDiff, Nat.reduceLT, ↓reduceIte, cls_SP_putWord, st_aload_n, st_getfield, st_ifCond, st_bipush, st_invokevirtual, st_istore_n, st_iload_n, st_lload_n, st_lshr, st_ldc2_w, st_land, st_l2i, st_istore, st_iload, st_iinc, st_goto, st_return_, (show mSP_putWord.2.2.1 = 5 from rfl), gF_SP_67, tn_SP_73, (show gT0 56 = none from rfl), kl_SP_43, dSP_putWord_0, dSP_putWord_1, dSP_putWord_4, tg_4_9, tz_4_9, dSP_putWord_7, dSP_putWord_8, bi_32, dSP_putWord_10, dSP_putWord_13, bi_56, dSP_putWord_15, dSP_putWord_16, dSP_putWord_17, tg_17_30, tz_17_30, dSP_putWord_20, dSP_putWord_21, dSP_putWord_22, dSP_putWord_23, dSP_putWord_26, dSP_putWord_27, dSP_putWord_28, dSP_putWord_30, dSP_putWord_32, tg_32_9, tz_32_9, dSP_putWord_35, dSP_putWord_36, dSP_putWord_38, dSP_putWord_41, ic_m8, dSP_putWord_44, tg_44_m28, tz_44_m28, dSP_putWord_47, k0, fSP, hz]
    refine gw_cV (r := []) dSP_putWord_10 (c_SP_put l g cL cI hcI A hA 32 s0 hs0 h H0 hH0) rfl (k0) rfl wc_SP_put wl_SP_73 wi_SP_put ws_SP_put wn_SP (by show _ ∧ _ ∧ _ = some 1; decide +kernel) (by decide) (gr_ge (by first | decide | omega)) (Nat.le_of_ble_eq_true rfl) ⟨Nat.le_refl _, Nat.le_refl _⟩ ?_
    have h9 := loop 8 (putF 32 s0) _ (by omega) rfl (putF_tl hs0) hT2
    rw [← shN_8] at h9
    refine gw_ev (T := gT0) 60 [16] gRt_m (gTO_0 _ _ _ ⟨Nat.le_refl _, Nat.le_refl _⟩) ?_
    simp only [vc_i, vc_l, vc_r, vc_n, Nat.succ_ne_self, gSd_s, gEd_s, gEd_0, gEd_B, gB_t, gB_f, gGo_c, gGo_n, gAll_n, gAll_c, gwK_s, gCT, gCF, gSet, gSet2, gKill, gTw, gTs, gLs, List.map_cons, List.map_nil, fv0, fv1, fv2, fv3, List.getElem?_cons_zero, List.getElem?_cons_succ, List.set_cons_zero, List.set_cons_succ, List.not_mem_nil, List.mem_cons, Option.toList_some, Option.toList_none, List.cons_append, List.nil_append, if_false, if_true, true_and, and_true, forall_const, true_implies, false_implies, or_false, false_or, not_true_eq_false, not_false_eq_true, and_false, false_and, implies_true, Nat.reduceAdd, Nat.reduceEqDiff, Nat.reduceLT, ↓reduceIte, cls_SP_putWord, st_aload_n, st_getfield, st_ifCond, st_bipush, st_invokevirtual, st_istore_n, st_iload_n, st_lload_n, st_lshr, st_ldc2_w, st_land, st_l2i, st_istore, st_iload, st_iinc, st_goto, st_return_, (show mSP_putWord.2.2.1 = 5 from rfl), gF_SP_67, tn_SP_73, (show gT0 56 = none from rfl), kl_SP_43, dSP_putWord_0, dSP_putWord_1, dSP_putWord_4, tg_4_9, tz_4_9, dSP_putWord_7, dSP_putWord_8, bi_32, dSP_putWord_10, dSP_putWord_13, bi_56, dSP_putWord_15, dSP_putWord_16, dSP_putWord_17, tg_17_30, tz_17_30, dSP_putWord_20, dSP_putWord_21, dSP_putWord_22, dSP_putWord_23, dSP_putWord_26, dSP_putWord_27, dSP_putWord_28, dSP_putWord_30, dSP_putWord_32, tg_32_9, tz_32_9, dSP_putWord_35, dSP_putWord_36, dSP_putWord_38, dSP_putWord_41, ic_m8, dSP_putWord_44, tg_44_m28, tz_44_m28, dSP_putWord_47]
    exact h9
  · have e0 : s0.2.2.2.2.2.1 = 0 := by omega
    have hz : nI s0.2.2.2.2.2.1 ≤ 0 := by rw [e0]; decide
    have hT2 : (byL w 8).foldl pwB s0 = T := by rw [hT, pwF, if_neg h1]
    have h9 := loop 8 s0 H0 (by omega) hH0 hs0 hT2
    rw [← shN_8] at h9
    refine gw_ev (T := gT0) 60 [16] gRt_m (gTO_0 _ _ _ ⟨Nat.le_refl _, Nat.le_refl _⟩) ?_
    simp only [vc_i, vc_l, vc_r, vc_n, Nat.succ_ne_self, gSd_s, gEd_s, gEd_0, gEd_B, gB_t, gB_f, gGo_c, gGo_n, gAll_n, gAll_c, gwK_s, gCT, gCF, gSet, gSet2, gKill, gTw, gTs, gLs, List.map_cons, List.map_nil, fv0, fv1, fv2, fv3, List.getElem?_cons_zero, List.getElem?_cons_succ, List.set_cons_zero, List.set_cons_succ, List.not_mem_nil, List.mem_cons, Option.toList_some, Option.toList_none, List.cons_append, List.nil_append, if_false, if_true, true_and, and_true, forall_const, true_implies, false_implies, or_false, false_or, not_true_eq_false, not_false_eq_true, and_false, false_and, implies_true, Nat.reduceAdd, Nat.reduceEqDiff, Nat.reduceLT, ↓reduceIte, cls_SP_putWord, st_aload_n, st_getfield, st_ifCond, st_bipush, st_invokevirtual, st_istore_n, st_iload_n, st_lload_n, st_lshr, st_ldc2_w, st_land, st_l2i, st_istore, st_iload, st_iinc, st_goto, st_return_, (show mSP_putWord.2.2.1 = 5 from rfl), gF_SP_67, tn_SP_73, (show gT0 56 = none from rfl), kl_SP_43, dSP_putWord_0, dSP_putWord_1, dSP_putWord_4, tg_4_9, tz_4_9, dSP_putWord_7, dSP_putWord_8, bi_32, dSP_putWord_10, dSP_putWord_13, bi_56, dSP_putWord_15, dSP_putWord_16, dSP_putWord_17, tg_17_30, tz_17_30, dSP_putWord_20, dSP_putWord_21, dSP_putWord_22, dSP_putWord_23, dSP_putWord_26, dSP_putWord_27, dSP_putWord_28, dSP_putWord_30, dSP_putWord_32, tg_32_9, tz_32_9, dSP_putWord_35, dSP_putWord_36, dSP_putWord_38, dSP_putWord_41, ic_m8, dSP_putWord_44, tg_44_m28, tz_44_m28, dSP_putWord_47, k0, fSP, hz]
    exact h9
def gnF (nm : Nat → Int64) (x : Int32) (w : Int64) : Option Int64 := if wdO (byL w 8) 0 0 = -1 ∨ (segF id 15 0).any (fun k => decide (wdF k = wdO (byL w 8) 0 0)) = true then none else if ¬ namedF nm (wdO (byL w 8) 0 0) = -1 ∧ ¬ namedF nm (wdO (byL w 8) 0 0) = x then none else some (wdO (byL w 8) 0 0)
def gnS (x : Int32) (s : SS) : Option Int64 → SS
  | none => s
  | some v => (vp_updL s.1 x.toNatClampNeg v, s.2)
def gp_SP_wordOf : gPF := fun _ st h => match st with
  | .long w :: r => some (gCs r ≤ 8, .long (wdO (byL w 8) 0 0) :: r, h)
  | _ => none
theorem e_SP_wordOf : gEK 1 50 gp_SP_wordOf := gE_S (d := 0) mSP_wordOf rfl rfl wc_SP_wordOf wt_SP_wordOf wn_SP (N := 1) (by decide +kernel) (by decide) (fun g st h P st2 h2 he hP => by
  unfold gp_SP_wordOf at he
  split at he
  · rename_i w r
    cases he
    exact ⟨[.long w], r, some (.long (wdO (byL w 8) 0 0)), rfl, rfl, hP, rfl, fun l => c_SP_wordOf l g w h⟩
  · cases he)
def gp_SP_isWord : gPF := fun g st h => match st with
  | .long w :: r => match h (gtW g) with
    | none => some (gCs r ≤ 8, .int (bI ((segF id 15 0).any (fun k => decide (wdF k = w)))) :: r, h)
    | some _ => none
  | _ => none
theorem e_SP_isWord : gEK 1 51 gp_SP_isWord := gE_S (d := 0) mSP_isWord rfl rfl wc_SP_isWord wt_SP_isWord wn_SP (N := 1) (by decide +kernel) (by decide) (fun g st h P st2 h2 he hP => by
  unfold gp_SP_isWord at he
  split at he
  · rename_i w r
    split at he
    · rename_i hW
      cases he
      exact ⟨[.long w], r, some _, rfl, rfl, hP, rfl, fun l => c_SP_isWord l g w h hW⟩
    · cases he
  · cases he)
def gT1s : gTB := gTu (gTu (gT1) 50 gp_SP_wordOf) 51 gp_SP_isWord
theorem kgT1s : gTK 1 gT1s := gTK_u (gTK_u (gTK_mono (by decide) kgT1) (gEK_mono (by decide) e_SP_wordOf)) (gEK_mono (by decide) e_SP_isWord)
theorem gT1s_11 : gT1s 11 = some gp_CO_kind := rfl
theorem gT1s_12 : gT1s 12 = some gp_CO_x := rfl
theorem gT1s_13 : gT1s 13 = some gp_CO_y := rfl
theorem gT1s_14 : gT1s 14 = some gp_CO_z := rfl
theorem gT1s_15 : gT1s 15 = some gp_CO_d := rfl
theorem gT1s_16 : gT1s 16 = some gp_CO_speaker := rfl
theorem gT1s_73 : gT1s 73 = some gp_CO_of := rfl
theorem gT1s_39 : gT1s 39 = some gp_CO_thingsOf := rfl
theorem gT1s_66 : gT1s 66 = some gp_CO_leastD := rfl
theorem gT1s_67 : gT1s 67 = some gp_CO_greatestD := rfl
theorem gT1s_27 : gT1s 27 = some gp_CO_isSo := rfl
theorem gT1s_30 : gT1s 30 = some gp_CO_thingAt := rfl
theorem gT1s_24 : gT1s 24 = some gp_JI_bitCount := rfl
theorem gT1s_25 : gT1s 25 = some gp_WO_isMany := rfl
theorem gT1s_3 : gT1s 3 = some gp_JM_max := rfl
theorem gT1s_2 : gT1s 2 = some gp_JM_min := rfl
theorem gT1s_50 : gT1s 50 = some gp_SP_wordOf := rfl
theorem gT1s_51 : gT1s 51 = some gp_SP_isWord := rfl
set_option maxRecDepth 100000 in
theorem c_SP_giveName (l : Launch) (g : gG) (cL cI : ClassId) (hcL : (cL, FieldType.long) ∈ g.2.1) (A : Nat → Nat) (hA : apS A) (x : Int32) (hx : vp_in x 40) (w : Int64) (s : SS) (h H : gH) (hH : H = hSP cL cI A s h) (hW : H (gtW g) = none) : gC l g mSP_giveName (gr 1) [.ref (A 0), .int x, .long w] H (fun r h' => r = some (.int (bI (gnF s.1 x w).isSome)) ∧ h' = hSP cL cI A (gnS x s (gnF s.1 x w)) h) := by
  have k0 := hSP_0 hA hH
  have k1 := hSP_1 hA hH
  obtain ⟨v, hv⟩ : ∃ v, v = wdO (byL w 8) 0 0 := ⟨_, rfl⟩
  unfold gnF
  rw [← hv]
  refine gC_of (lv0 := [some (.ref (A 0)), some (.int x), some (.long w), none, none, none, none]) (by decide +kernel) (Nat.le_of_ble_eq_true rfl) (fun q hq => hq) ⟨rfl, rfl⟩ ?_
  by_cases h1 : v = -1
  · have e1 : (v = -1) = True := eq_true h1
    rw [if_pos (Or.inl h1)]
    refine gw_ev (T := gT1s) 60 [] gRt_m ⟨1, kgT1s, gr_ge (by first | decide | omega), ⟨Nat.le_refl _, Nat.le_refl _⟩⟩ ?_
    simp only [vc_i, vc_l, vc_r, vc_n, Nat.succ_ne_self, gSd_s, gEd_s, gEd_0, gEd_B, gB_t, gB_f, gGo_c, gGo_n, gAll_n, gAll_c, gwK_s, gCT, gCF, gSet, gSet2, gKill, gTw, gTs, gLs, List.map_cons, List.map_nil, fv0, fv1, fv2, fv3, List.getElem?_cons_zero, List.getElem?_cons_succ, List.set_cons_zero, List.set_cons_succ, List.not_mem_nil, List.mem_cons, Option.toList_some, Option.toList_none, List.cons_append, List.nil_append, if_false, if_true, true_and, and_true, forall_const, true_implies, false_implies, or_false, false_or, not_true_eq_false, not_false_eq_true, and_false, false_and, implies_true, Nat.reduceAdd, Nat.reduceEqDiff, Nat.reduceLT, ↓reduceIte, cls_SP_giveName, st_lload_n, st_invokestatic, st_lstore, st_lload, st_ldc2_w, st_lcmp, st_ifCond, st_iconst, st_ireturn, st_aload_n, st_invokevirtual, st_istore, st_iload, st_if_icmp, st_iload_n, st_getfield, st_lastore, (show mSP_giveName.2.2.1 = 7 from rfl), tn_SP_29, gT1s_50, gp_SP_wordOf, ms_50, gCs_n, gCs_c, Nat.reduceLeDiff, kl_SP_33, tn_SP_35, gT1s_51, gp_SP_isWord, ms_51, tn_SP_39, (show gT1s 52 = none from rfl), gF_SP_9, dSP_giveName_0, dSP_giveName_1, dSP_giveName_4, dSP_giveName_6, dSP_giveName_8, dSP_giveName_11, dSP_giveName_12, tg_12_11, tz_12_11, dSP_giveName_15, dSP_giveName_17, dSP_giveName_20, tg_20_5, tz_20_5, dSP_giveName_23, ic_0, dSP_giveName_24, dSP_giveName_25, dSP_giveName_26, dSP_giveName_28, dSP_giveName_31, dSP_giveName_33, dSP_giveName_35, ic_m1, dSP_giveName_36, tg_36_11, tz_36_11, dSP_giveName_39, dSP_giveName_41, dSP_giveName_42, tg_42_5, tz_42_5, dSP_giveName_45, dSP_giveName_46, dSP_giveName_47, dSP_giveName_48, dSP_giveName_51, dSP_giveName_52, dSP_giveName_54, dSP_giveName_55, ic_1, dSP_giveName_56, ← hv, lc_eq, e1]
    exact ⟨rfl, rfl, hH⟩
  · cases h2 : (segF id 15 0).any (fun k => decide (wdF k = v)) with
    | true =>
      rw [if_pos (Or.inr rfl)]
      refine gw_ev (T := gT1s) 60 [] gRt_m ⟨1, kgT1s, gr_ge (by first | decide | omega), ⟨Nat.le_refl _, Nat.le_refl _⟩⟩ ?_
      simp only [vc_i, vc_l, vc_r, vc_n, Nat.succ_ne_self, gSd_s, gEd_s, gEd_0, gEd_B, gB_t, gB_f, gGo_c, gGo_n, gAll_n, gAll_c, gwK_s, gCT, gCF, gSet, gSet2, gKill, gTw, gTs, gLs, List.map_cons, List.map_nil, fv0, fv1, fv2, fv3, List.getElem?_cons_zero, List.getElem?_cons_succ, List.set_cons_zero, List.set_cons_succ, List.not_mem_nil, List.mem_cons, Option.toList_some, Option.toList_none, List.cons_append, List.nil_append, if_false, if_true, true_and, and_true, forall_const, true_implies, false_implies, or_false, false_or, not_true_eq_false, not_false_eq_true, and_false, false_and, implies_true, Nat.reduceAdd, Nat.reduceEqDiff, Nat.reduceLT, ↓reduceIte, cls_SP_giveName, st_lload_n, st_invokestatic, st_lstore, st_lload, st_ldc2_w, st_lcmp, st_ifCond, st_iconst, st_ireturn, st_aload_n, st_invokevirtual, st_istore, st_iload, st_if_icmp, st_iload_n, st_getfield, st_lastore, (show mSP_giveName.2.2.1 = 7 from rfl), tn_SP_29, gT1s_50, gp_SP_wordOf, ms_50, gCs_n, gCs_c, Nat.reduceLeDiff, kl_SP_33, tn_SP_35, gT1s_51, gp_SP_isWord, ms_51, tn_SP_39, (show gT1s 52 = none from rfl), gF_SP_9, dSP_giveName_0, dSP_giveName_1, dSP_giveName_4, dSP_giveName_6, dSP_giveName_8, dSP_giveName_11, dSP_giveName_12, tg_12_11, tz_12_11, dSP_giveName_15, dSP_giveName_17, dSP_giveName_20, tg_20_5, tz_20_5, dSP_giveName_23, ic_0, dSP_giveName_24, dSP_giveName_25, dSP_giveName_26, dSP_giveName_28, dSP_giveName_31, dSP_giveName_33, dSP_giveName_35, ic_m1, dSP_giveName_36, tg_36_11, tz_36_11, dSP_giveName_39, dSP_giveName_41, dSP_giveName_42, tg_42_5, tz_42_5, dSP_giveName_45, dSP_giveName_46, dSP_giveName_47, dSP_giveName_48, dSP_giveName_51, dSP_giveName_52, dSP_giveName_54, dSP_giveName_55, ic_1, dSP_giveName_56, ← hv, lc_eq, h1, hW, h2, bI_t, oz]
      exact ⟨rfl, rfl, hH⟩
    | false =>
      rw [if_neg (by simp [h1])]
      refine gw_ev (T := gT1s) 60 [] gRt_m ⟨1, kgT1s, gr_ge (by first | decide | omega), ⟨Nat.le_refl _, Nat.le_refl _⟩⟩ ?_
      simp only [vc_i, vc_l, vc_r, vc_n, Nat.succ_ne_self, gSd_s, gEd_s, gEd_0, gEd_B, gB_t, gB_f, gGo_c, gGo_n, gAll_n, gAll_c, gwK_s, gCT, gCF, gSet, gSet2, gKill, gTw, gTs, gLs, List.map_cons, List.map_nil, fv0, fv1, fv2, fv3, List.getElem?_cons_zero, List.getElem?_cons_succ, List.set_cons_zero, List.set_cons_succ, List.not_mem_nil, List.mem_cons, Option.toList_some, Option.toList_none, List.cons_append, List.nil_append, if_false, if_true, true_and, and_true, forall_const, true_implies, false_implies, or_false, false_or, not_true_eq_false, not_false_eq_true, and_false, false_and, implies_true, Nat.reduceAdd, Nat.reduceEqDiff, Nat.reduceLT, ↓reduceIte, cls_SP_giveName, st_lload_n, st_invokestatic, st_lstore, st_lload, st_ldc2_w, st_lcmp, st_ifCond, st_iconst, st_ireturn, st_aload_n, st_invokevirtual, st_istore, st_iload, st_if_icmp, st_iload_n, st_getfield, st_lastore, (show mSP_giveName.2.2.1 = 7 from rfl), tn_SP_29, gT1s_50, gp_SP_wordOf, ms_50, gCs_n, gCs_c, Nat.reduceLeDiff, kl_SP_33, tn_SP_35, gT1s_51, gp_SP_isWord, ms_51, tn_SP_39, (show gT1s 52 = none from rfl), gF_SP_9, dSP_giveName_0, dSP_giveName_1, dSP_giveName_4, dSP_giveName_6, dSP_giveName_8, dSP_giveName_11, dSP_giveName_12, tg_12_11, tz_12_11, dSP_giveName_15, dSP_giveName_17, dSP_giveName_20, tg_20_5, tz_20_5, dSP_giveName_23, ic_0, dSP_giveName_24, dSP_giveName_25, dSP_giveName_26, dSP_giveName_28, dSP_giveName_31, dSP_giveName_33, dSP_giveName_35, ic_m1, dSP_giveName_36, tg_36_11, tz_36_11, dSP_giveName_39, dSP_giveName_41, dSP_giveName_42, tg_42_5, tz_42_5, dSP_giveName_45, dSP_giveName_46, dSP_giveName_47, dSP_giveName_48, dSP_giveName_51, dSP_giveName_52, dSP_giveName_54, dSP_giveName_55, ic_1, dSP_giveName_56, ← hv, lc_eq, h1, hW, h2, bI_f]
      refine gw_cV (r := []) dSP_giveName_28 (c_SP_thingNamed l g cL hcL (A 0) (A 1) _ s.1 v H k0 rfl k1) rfl (k0) rfl wc_SP_thingNamed wl_SP_39 wi_SP_thingNamed ws_SP_thingNamed wn_SP (by show _ ∧ _ ∧ _ = some 1; decide +kernel) (by decide) (gr_ge (by first | decide | omega)) (Nat.le_of_ble_eq_true rfl) ⟨Nat.le_refl _, Nat.le_refl _⟩ ?_
      obtain ⟨ow, how⟩ : ∃ ow, ow = namedF s.1 v := ⟨_, rfl⟩
      rw [← how]
      have fin : gup H (A 1) (.inl (cL, 40, .inr (.inl (vp_updL s.1 x.toNatClampNeg v)))) = hSP cL cI A (gnS x s (some v)) h := by
        rw [hH]
        exact gh5_p0 hA
      by_cases h3 : ow = -1
      · have e3 : (ow = -1) = True := eq_true h3
        rw [if_neg (fun q => q.1 h3), ← fin]
        refine gw_ev (T := gT1s) 60 [] gRt_m ⟨1, kgT1s, gr_ge (by first | decide | omega), ⟨Nat.le_refl _, Nat.le_refl _⟩⟩ ?_
        simp only [vc_i, vc_l, vc_r, vc_n, Nat.succ_ne_self, gSd_s, gEd_s, gEd_0, gEd_B, gB_t, gB_f, gGo_c, gGo_n, gAll_n, gAll_c, gwK_s, gCT, gCF, gSet, gSet2, gKill, gTw, gTs, gLs, List.map_cons, List.map_nil, fv0, fv1, fv2, fv3, List.getElem?_cons_zero, List.getElem?_cons_succ, List.set_cons_zero, List.set_cons_succ, List.not_mem_nil, List.mem_cons, Option.toList_some, Option.toList_none, List.cons_append, List.nil_append, if_false, if_true, true_and, and_true, forall_const, true_implies, false_implies, or_false, false_or, not_true_eq_false, not_false_eq_true, and_false, false_and, implies_true, Nat.reduceAdd, Nat.reduceEqDiff, Nat.reduceLT, ↓reduceIte, cls_SP_giveName, st_lload_n, st_invokestatic, st_lstore, st_lload, st_ldc2_w, st_lcmp, st_ifCond, st_iconst, st_ireturn, st_aload_n, st_invokevirtual, st_istore, st_iload, st_if_icmp, st_iload_n, st_getfield, st_lastore, (show mSP_giveName.2.2.1 = 7 from rfl), tn_SP_29, gT1s_50, gp_SP_wordOf, ms_50, gCs_n, gCs_c, Nat.reduceLeDiff, kl_SP_33, tn_SP_35, gT1s_51, gp_SP_isWord, ms_51, tn_SP_39, (show gT1s 52 = none from rfl), gF_SP_9, dSP_giveName_0, dSP_giveName_1, dSP_giveName_4, dSP_giveName_6, dSP_giveName_8, dSP_giveName_11, dSP_giveName_12, tg_12_11, tz_12_11, dSP_giveName_15, dSP_giveName_17, dSP_giveName_20, tg_20_5, tz_20_5, dSP_giveName_23, ic_0, dSP_giveName_24, dSP_giveName_25, dSP_giveName_26, dSP_giveName_28, dSP_giveName_31, dSP_giveName_33, dSP_giveName_35, ic_m1, dSP_giveName_36, tg_36_11, tz_36_11, dSP_giveName_39, dSP_giveName_41, dSP_giveName_42, tg_42_5, tz_42_5, dSP_giveName_45, dSP_giveName_46, dSP_giveName_47, dSP_giveName_48, dSP_giveName_51, dSP_giveName_52, dSP_giveName_54, dSP_giveName_55, ic_1, dSP_giveName_56, e3, k0, k1, fSP]
        exact ⟨⟨hcL, hx⟩, rfl, rfl⟩
      · by_cases h4 : ow = x
        · have e4 : (ow = x) = True := eq_true h4
          rw [if_neg (fun q => q.2 h4), ← fin]
          refine gw_ev (T := gT1s) 60 [] gRt_m ⟨1, kgT1s, gr_ge (by first | decide | omega), ⟨Nat.le_refl _, Nat.le_refl _⟩⟩ ?_
          simp only [vc_i, vc_l, vc_r, vc_n, Nat.succ_ne_self, gSd_s, gEd_s, gEd_0, gEd_B, gB_t, gB_f, gGo_c, gGo_n, gAll_n, gAll_c, gwK_s, gCT, gCF, gSet, gSet2, gKill, gTw, gTs, gLs, List.map_cons, List.map_nil, fv0, fv1, fv2, fv3, List.getElem?_cons_zero, List.getElem?_cons_succ, List.set_cons_zero, List.set_cons_succ, List.not_mem_nil, List.mem_cons, Option.toList_some, Option.toList_none, List.cons_append, List.nil_append, if_false, if_true, true_and, and_true, forall_const, true_implies, false_implies, or_false, false_or, not_true_eq_false, not_false_eq_true, and_false, false_and, implies_true, Nat.reduceAdd, Nat.reduceEqDiff, Nat.reduceLT, ↓reduceIte, cls_SP_giveName, st_lload_n, st_invokestatic, st_lstore, st_lload, st_ldc2_w, st_lcmp, st_ifCond, st_iconst, st_ireturn, st_aload_n, st_invokevirtual, st_istore, st_iload, st_if_icmp, st_iload_n, st_getfield, st_lastore, (show mSP_giveName.2.2.1 = 7 from rfl), tn_SP_29, gT1s_50, gp_SP_wordOf, ms_50, gCs_n, gCs_c, Nat.reduceLeDiff, kl_SP_33, tn_SP_35, gT1s_51, gp_SP_isWord, ms_51, tn_SP_39, (show gT1s 52 = none from rfl), gF_SP_9, dSP_giveName_0, dSP_giveName_1, dSP_giveName_4, dSP_giveName_6, dSP_giveName_8, dSP_giveName_11, dSP_giveName_12, tg_12_11, tz_12_11, dSP_giveName_15, dSP_giveName_17, dSP_giveName_20, tg_20_5, tz_20_5, dSP_giveName_23, ic_0, dSP_giveName_24, dSP_giveName_25, dSP_giveName_26, dSP_giveName_28, dSP_giveName_31, dSP_giveName_33, dSP_giveName_35, ic_m1, dSP_giveName_36, tg_36_11, tz_36_11, dSP_giveName_39, dSP_giveName_41, dSP_giveName_42, tg_42_5, tz_42_5, dSP_giveName_45, dSP_giveName_46, dSP_giveName_47, dSP_giveName_48, dSP_giveName_51, dSP_giveName_52, dSP_giveName_54, dSP_giveName_55, ic_1, dSP_giveName_56, h3, e4, k0, k1, fSP]
          exact ⟨⟨hcL, hx⟩, rfl, rfl⟩
        · rw [if_pos ⟨h3, h4⟩]
          refine gw_ev (T := gT1s) 60 [] gRt_m ⟨1, kgT1s, gr_ge (by first | decide | omega), ⟨Nat.le_refl _, Nat.le_refl _⟩⟩ ?_
          simp only [vc_i, vc_l, vc_r, vc_n, Nat.succ_ne_self, gSd_s, gEd_s, gEd_0, gEd_B, gB_t, gB_f, gGo_c, gGo_n, gAll_n, gAll_c, gwK_s, gCT, gCF, gSet, gSet2, gKill, gTw, gTs, gLs, List.map_cons, List.map_nil, fv0, fv1, fv2, fv3, List.getElem?_cons_zero, List.getElem?_cons_succ, List.set_cons_zero, List.set_cons_succ, List.not_mem_nil, List.mem_cons, Option.toList_some, Option.toList_none, List.cons_append, List.nil_append, if_false, if_true, true_and, and_true, forall_const, true_implies, false_implies, or_false, false_or, not_true_eq_false, not_false_eq_true, and_false, false_and, implies_true, Nat.reduceAdd, Nat.reduceEqDiff, Nat.reduceLT, ↓reduceIte, cls_SP_giveName, st_lload_n, st_invokestatic, st_lstore, st_lload, st_ldc2_w, st_lcmp, st_ifCond, st_iconst, st_ireturn, st_aload_n, st_invokevirtual, st_istore, st_iload, st_if_icmp, st_iload_n, st_getfield, st_lastore, (show mSP_giveName.2.2.1 = 7 from rfl), tn_SP_29, gT1s_50, gp_SP_wordOf, ms_50, gCs_n, gCs_c, Nat.reduceLeDiff, kl_SP_33, tn_SP_35, gT1s_51, gp_SP_isWord, ms_51, tn_SP_39, (show gT1s 52 = none from rfl), gF_SP_9, dSP_giveName_0, dSP_giveName_1, dSP_giveName_4, dSP_giveName_6, dSP_giveName_8, dSP_giveName_11, dSP_giveName_12, tg_12_11, tz_12_11, dSP_giveName_15, dSP_giveName_17, dSP_giveName_20, tg_20_5, tz_20_5, dSP_giveName_23, ic_0, dSP_giveName_24, dSP_giveName_25, dSP_giveName_26, dSP_giveName_28, dSP_giveName_31, dSP_giveName_33, dSP_giveName_35, ic_m1, dSP_giveName_36, tg_36_11, tz_36_11, dSP_giveName_39, dSP_giveName_41, dSP_giveName_42, tg_42_5, tz_42_5, dSP_giveName_45, dSP_giveName_46, dSP_giveName_47, dSP_giveName_48, dSP_giveName_51, dSP_giveName_52, dSP_giveName_54, dSP_giveName_55, ic_1, dSP_giveName_56, h3, h4]
          exact ⟨rfl, rfl, hH⟩
