-- the mill: shown
def shnF (s : SS) (k : Int32) : Int32 := if ¬ k < 0 ∧ k < nI s.2.2.2.2.2.1 then s.2.2.1 k.toNatClampNeg else -1
set_option maxRecDepth 100000 in
set_option maxHeartbeats 4000000 in
theorem c_RM_shown (l : Launch) (g : gG) (cL cI : ClassId) (hcI : (cI, FieldType.int) ∈ g.2.1) (N K : Nat) (M : Nat → Nat) (s : RMS) (h : gH) (hI : isRM cL cI N K M s h) (ht : s.2.2.2.2.2.2.2.2.1 ≤ 60) (k : Int32) : gC l g mRM_shown (gr 0) [.ref (M 0), .int k] h (fun r h' => r = some (.int (shnF s.2.2.2 k)) ∧ h' = h) := by
  obtain ⟨k0, _, _, _, i5⟩ := hI
  have k1 : h (M 27) = some (.inr (3, fSP (fun i => M (27 + i)) s.2.2.2.2.2.2.2.1 s.2.2.2.2.2.2.2.2.1 s.2.2.2.2.2.2.2.2.2.1 s.2.2.2.2.2.2.2.2.2.2.1 s.2.2.2.2.2.2.2.2.2.2.2.1 s.2.2.2.2.2.2.2.2.2.2.2.2.1 s.2.2.2.2.2.2.2.2.2.2.2.2.2)) := i5.2.2.2.2
  have k3 : h (M 30) = some (.inl (cI, 60, .inl s.2.2.2.2.2.1)) := i5.2.2.1
  have e30 : M (27 + 3) = M 30 := rfl
  refine gC_of (lv0 := [some (.ref (M 0)), some (.int k)]) (by decide +kernel) (Nat.le_of_ble_eq_true rfl) (fun q hq => hq) ⟨rfl, rfl⟩ ?_
  by_cases c1 : k < 0
  · have e : shnF s.2.2.2 k = -1 := if_neg (fun z => z.1 c1)
    rw [e]
    refine gw_ev (T := gT0) 60 [] gRt_m (gTO_0 _ _ _ ⟨Nat.le_refl _, Nat.le_refl _⟩) ?_
    simp only [vc_i, vc_l, vc_r, vc_n, Nat.succ_ne_self, gSd_s, gEd_s, gEd_0, gEd_B, gB_t, gB_f, gGo_c, gGo_n, gAll_n, gAll_c, gwK_s, gCT, gCF, gSet, gSet2, gKill, gTw, gTs, gLs, List.map_cons, List.map_nil, fv0, fv1, fv2, fv3, List.getElem?_cons_zero, List.getElem?_cons_succ, List.set_cons_zero, List.set_cons_succ, List.not_mem_nil, List.mem_cons, Option.toList_some, Option.toList_none, List.cons_append, List.nil_append, if_false, if_true, true_and, and_true, forall_const, true_implies, false_implies, or_false, false_or, not_true_eq_false, not_false_eq_true, and_false, false_and, implies_true, Nat.reduceAdd, Nat.reduceEqDiff, Nat.reduceLT, ↓reduceIte, cls_RM_shown, st_iload_n, st_ifCond, st_aload_n, st_getfield, st_if_icmp, st_iaload, st_goto, st_iconst, st_ireturn, (show mRM_shown.2.2.1 = 2 from rfl), gF_RM_61, gF_RM_182, gF_RM_185, dRM_shown_0, dRM_shown_1, tg_1_26, tz_1_26, dRM_shown_4, dRM_shown_5, dRM_shown_6, dRM_shown_9, dRM_shown_12, tg_12_15, tz_12_15, dRM_shown_15, dRM_shown_16, dRM_shown_19, dRM_shown_22, dRM_shown_23, dRM_shown_24, tg_24_4, tz_24_4, dRM_shown_27, ic_m1, dRM_shown_28, k0, k1, fRM, fSP, c1]
    exact rfl
  by_cases c2 : nI s.2.2.2.2.2.2.2.2.1 ≤ k
  · have e : shnF s.2.2.2 k = -1 := if_neg (fun z => Int32.not_le.mpr z.2 c2)
    rw [e]
    refine gw_ev (T := gT0) 60 [] gRt_m (gTO_0 _ _ _ ⟨Nat.le_refl _, Nat.le_refl _⟩) ?_
    simp only [vc_i, vc_l, vc_r, vc_n, Nat.succ_ne_self, gSd_s, gEd_s, gEd_0, gEd_B, gB_t, gB_f, gGo_c, gGo_n, gAll_n, gAll_c, gwK_s, gCT, gCF, gSet, gSet2, gKill, gTw, gTs, gLs, List.map_cons, List.map_nil, fv0, fv1, fv2, fv3, List.getElem?_cons_zero, List.getElem?_cons_succ, List.set_cons_zero, List.set_cons_succ, List.not_mem_nil, List.mem_cons, Option.toList_some, Option.toList_none, List.cons_append, List.nil_append, if_false, if_true, true_and, and_true, forall_const, true_implies, false_implies, or_false, false_or, not_true_eq_false, not_false_eq_true, and_false, false_and, implies_true, Nat.reduceAdd, Nat.reduceEqDiff, Nat.reduceLT, ↓reduceIte, cls_RM_shown, st_iload_n, st_ifCond, st_aload_n, st_getfield, st_if_icmp, st_iaload, st_goto, st_iconst, st_ireturn, (show mRM_shown.2.2.1 = 2 from rfl), gF_RM_61, gF_RM_182, gF_RM_185, dRM_shown_0, dRM_shown_1, tg_1_26, tz_1_26, dRM_shown_4, dRM_shown_5, dRM_shown_6, dRM_shown_9, dRM_shown_12, tg_12_15, tz_12_15, dRM_shown_15, dRM_shown_16, dRM_shown_19, dRM_shown_22, dRM_shown_23, dRM_shown_24, tg_24_4, tz_24_4, dRM_shown_27, ic_m1, dRM_shown_28, k0, k1, fRM, fSP, c1, c2]
    exact rfl
  · have c3 : k < nI s.2.2.2.2.2.2.2.2.1 := Int32.not_le.mp c2
    have e : shnF s.2.2.2 k = s.2.2.2.2.2.1 k.toNatClampNeg := if_pos ⟨c1, c3⟩
    have vk : vp_in k 60 := by
      have p1 : (0 : Int32) ≤ k := Int32.not_lt.mp c1
      have p2 : k < 60 := Int32.lt_of_lt_of_le c3 (show nI s.2.2.2.2.2.2.2.2.1 ≤ nI 60 from nI_le (by omega) (by omega))
      rw [Int32.le_iff_toInt_le] at p1
      rw [Int32.lt_iff_toInt_lt] at p2
      have e6 : (60 : Int32).toInt = 60 := by decide
      have e7 : k.toNatClampNeg = k.toInt.toNat := rfl
      rintro (z | z)
      · exact c1 z
      · rw [e7] at z
        rw [e6] at p2
        omega
    rw [e]
    refine gw_ev (T := gT0) 60 [] gRt_m (gTO_0 _ _ _ ⟨Nat.le_refl _, Nat.le_refl _⟩) ?_
    simp only [vc_i, vc_l, vc_r, vc_n, Nat.succ_ne_self, gSd_s, gEd_s, gEd_0, gEd_B, gB_t, gB_f, gGo_c, gGo_n, gAll_n, gAll_c, gwK_s, gCT, gCF, gSet, gSet2, gKill, gTw, gTs, gLs, List.map_cons, List.map_nil, fv0, fv1, fv2, fv3, List.getElem?_cons_zero, List.getElem?_cons_succ, List.set_cons_zero, List.set_cons_succ, List.not_mem_nil, List.mem_cons, Option.toList_some, Option.toList_none, List.cons_append, List.nil_append, if_false, if_true, true_and, and_true, forall_const, true_implies, false_implies, or_false, false_or, not_true_eq_false, not_false_eq_true, and_false, false_and, implies_true, Nat.reduceAdd, Nat.reduceEqDiff, Nat.reduceLT, ↓reduceIte, cls_RM_shown, st_iload_n, st_ifCond, st_aload_n, st_getfield, st_if_icmp, st_iaload, st_goto, st_iconst, st_ireturn, (show mRM_shown.2.2.1 = 2 from rfl), gF_RM_61, gF_RM_182, gF_RM_185, dRM_shown_0, dRM_shown_1, tg_1_26, tz_1_26, dRM_shown_4, dRM_shown_5, dRM_shown_6, dRM_shown_9, dRM_shown_12, tg_12_15, tz_12_15, dRM_shown_15, dRM_shown_16, dRM_shown_19, dRM_shown_22, dRM_shown_23, dRM_shown_24, tg_24_4, tz_24_4, dRM_shown_27, ic_m1, dRM_shown_28, k0, k1, k3, e30, fRM, fSP, c1, c2]
    exact ⟨⟨hcI, vk⟩, rfl⟩
