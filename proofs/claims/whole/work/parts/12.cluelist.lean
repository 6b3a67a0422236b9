set_option maxRecDepth 100000 in
theorem c_CL_contains (l : Launch) (g : gG) (cI : ClassId) (hcI : (cI, FieldType.int) ∈ g.2.1) (o c n : Nat) (hn : n ≤ 30) (x : Int32) (f : Nat → Int32) (h : gH) (ho : h o = some (.inr (0, [.ref c, .int (nI n)]))) (hc : h c = some (.inl (cI, 30, .inl f))) : gC l g mCL_contains gr0 [.ref o, .int x] h (fun r h' => r = some (.int (bI (decide (∃ j, j < n ∧ f j = x)))) ∧ h' = h) := by
  have loop : ∀ m i : Nat, i + m = n → (∀ j, j < i → ¬ f j = x) → gw l g mCL_contains gr0 h (gZm g h 0 0 (fun r h' => r = some (.int (bI (decide (∃ j, j < n ∧ f j = x)))) ∧ h' = h)) 0 0 2 [some (.ref o), some (.int x), some (.int (nI i))] [] h := by
    intro m
    induction m with
    | zero =>
      intro i hi hj
      refine gw_ev (T := gT0) 60 [2] gRt_m (gTO_0 _ _ _ ⟨Nat.le_refl _, Nat.le_refl _⟩) ?_
      simp only [vc_i, vc_l, vc_r, vc_n, Nat.succ_ne_self, gSd_s, gEd_s, gEd_0, gEd_B, gB_t, gB_f, gGo_c, gGo_n, gAll_n, gAll_c, gwK_s, gCT, gCF, gSet, gSet2, gKill, gTw, gTs, gLs, List.map_cons, List.map_nil, fv0, fv1, fv2, fv3, List.getElem?_cons_zero, List.getElem?_cons_succ, List.set_cons_zero, List.set_cons_succ, List.not_mem_nil, List.mem_cons, Option.toList_some, Option.toList_none, List.cons_append, List.nil_append, if_false, if_true, true_and, and_true, forall_const, true_implies, false_implies, or_false, false_or, not_true_eq_false, not_false_eq_true, and_false, false_and, implies_true, Nat.reduceAdd, Nat.reduceEqDiff, Nat.reduceLT, ↓reduceIte, cls_CL_contains, st_iconst, st_istore_n, st_iload_n, st_aload_n, st_getfield, st_if_icmp, st_iaload, st_ireturn, st_iinc, st_goto, (show mCL_contains.2.2.1 = 3 from rfl), gF_CL_15, gF_CL_9, dCL_contains_0, ic_0, dCL_contains_1, dCL_contains_2, dCL_contains_3, dCL_contains_4, dCL_contains_7, tg_7_21, tz_7_21, dCL_contains_10, dCL_contains_11, dCL_contains_14, dCL_contains_15, dCL_contains_16, dCL_contains_17, tg_17_5, tz_17_5, dCL_contains_20, ic_1, dCL_contains_21, dCL_contains_22, dCL_contains_25, tg_25_m23, tz_25_m23, dCL_contains_28, dCL_contains_29, ho, hc]
      have hz : nI n ≤ nI i := nI_le (by omega) (by omega)
      refine ⟨fun _ => ⟨rfl, ?_⟩, fun z => absurd hz z⟩
      have : ¬ ∃ j, j < n ∧ f j = x := fun ⟨j, h1, h2⟩ => hj j (by omega) h2
      simp [bI, this]
    | succ m ih =>
      intro i hi hj
      refine gw_ev (T := gT0) 60 [2] gRt_m (gTO_0 _ _ _ ⟨Nat.le_refl _, Nat.le_refl _⟩) ?_
      simp only [vc_i, vc_l, vc_r, vc_n, Nat.succ_ne_self, gSd_s, gEd_s, gEd_0, gEd_B, gB_t, gB_f, gGo_c, gGo_n, gAll_n, gAll_c, gwK_s, gCT, gCF, gSet, gSet2, gKill, gTw, gTs, gLs, List.map_cons, List.map_nil, fv0, fv1, fv2, fv3, List.getElem?_cons_zero, List.getElem?_cons_succ, List.set_cons_zero, List.set_cons_succ, List.not_mem_nil, List.mem_cons, Option.toList_some, Option.toList_none, List.cons_append, List.nil_append, if_false, if_true, true_and, and_true, forall_const, true_implies, false_implies, or_false, false_or, not_true_eq_false, not_false_eq_true, and_false, false_and, implies_true, Nat.reduceAdd, Nat.reduceEqDiff, Nat.reduceLT, ↓reduceIte, cls_CL_contains, st_iconst, st_istore_n, st_iload_n, st_aload_n, st_getfield, st_if_icmp, st_iaload, st_ireturn, st_iinc, st_goto, (show mCL_contains.2.2.1 = 3 from rfl), gF_CL_15, gF_CL_9, dCL_contains_0, ic_0, dCL_contains_1, dCL_contains_2, dCL_contains_3, dCL_contains_4, dCL_contains_7, tg_7_21, tz_7_21, dCL_contains_10, dCL_contains_11, dCL_contains_14, dCL_contains_15, dCL_contains_16, dCL_contains_17, tg_17_5, tz_17_5, dCL_contains_20, ic_1, dCL_contains_21, dCL_contains_22, dCL_contains_25, tg_25_m23, tz_25_m23, dCL_contains_28, dCL_contains_29, ho, hc]
      have hz : ¬ nI n ≤ nI i := nI_ge (by omega) (by omega)
      have hcl : (nI i).toNatClampNeg = i := nI_clamp (by omega)
      refine ⟨fun z => absurd z hz, fun _ => ⟨⟨hcI, vp_in_nI (by omega) (by omega)⟩, fun hne => ?_, fun he => ⟨rfl, ?_⟩⟩⟩
      · rw [hcl] at hne
        rw [nI_1]
        exact ih (i + 1) (by omega) (fun j hj2 => by
          rcases Nat.lt_succ_iff_lt_or_eq.mp hj2 with h1 | h1
          · exact hj j h1
          · rw [h1]; exact hne)
      · rw [hcl] at he
        have : ∃ j, j < n ∧ f j = x := ⟨i, by omega, he⟩
        simp [bI, this]
  refine gC_of (lv0 := [some (.ref o), some (.int x), none]) (by decide +kernel) (Nat.le_of_ble_eq_true rfl) (fun q hq => hq) ⟨rfl, rfl⟩ ?_
  refine gw_ev (T := gT0) 60 [2] gRt_m (gTO_0 _ _ _ ⟨Nat.le_refl _, Nat.le_refl _⟩) ?_
  simp only [vc_i, vc_l, vc_r, vc_n, Nat.succ_ne_self, gSd_s, gEd_s, gEd_0, gEd_B, gB_t, gB_f, gGo_c, gGo_n, gAll_n, gAll_c, gwK_s, gCT, gCF, gSet, gSet2, gKill, gTw, gTs, gLs, List.map_cons, List.map_nil, fv0, fv1, fv2, fv3, List.getElem?_cons_zero, List.getElem?_cons_succ, List.set_cons_zero, List.set_cons_succ, List.not_mem_nil, List.mem_cons, Option.toList_some, Option.toList_none, List.cons_append, List.nil_append, if_false, if_true, true_and, and_true, forall_const, true_implies, false_implies, or_false, false_or, not_true_eq_false, not_false_eq_true, and_false, false_and, implies_true, Nat.reduceAdd, Nat.reduceEqDiff, Nat.reduceLT, ↓reduceIte, cls_CL_contains, st_iconst, st_istore_n, st_iload_n, st_aload_n, st_getfield, st_if_icmp, st_iaload, st_ireturn, st_iinc, st_goto, (show mCL_contains.2.2.1 = 3 from rfl), gF_CL_15, gF_CL_9, dCL_contains_0, ic_0, dCL_contains_1, dCL_contains_2, dCL_contains_3, dCL_contains_4, dCL_contains_7, tg_7_21, tz_7_21, dCL_contains_10, dCL_contains_11, dCL_contains_14, dCL_contains_15, dCL_contains_16, dCL_contains_17, tg_17_5, tz_17_5, dCL_contains_20, ic_1, dCL_contains_21, dCL_contains_22, dCL_contains_25, tg_25_m23, tz_25_m23, dCL_contains_28, dCL_contains_29, ho, hc]
  have h9 := loop n 0 (by omega) (fun j hj => absurd hj (Nat.not_lt_zero j))
  rw [nI_0] at h9
  exact h9
