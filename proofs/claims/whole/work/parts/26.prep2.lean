-- needs 10 11 12 13 14 15 16 17 18 18b 18c 19 20 21 22 24 25
set_option maxRecDepth 100000 in
set_option maxHeartbeats 4000000 in
theorem c_WO_prepare (l : Launch) (g : gG) (cI : ClassId) (hcI : (cI, FieldType.int) ∈ g.2.1) (o a w tk q du t cl cc : Nat) (d4 : ap4 du q t o) (N : Int32) (M n : Nat) (hM : M ≤ 15) (hn : n ≤ 30) (lim mp wat sk : Int32) (c : WC) (cs dv0 qv0 sv0 : Nat → Int32) (h : gH) (ho : h o = some (.inr (4, fWO N (nI M) a w tk q du t lim mp wat c))) (hdu : h du = some (.inl (cI, 30, .inl dv0))) (hq : h q = some (.inl (cI, 30, .inl qv0))) (ht : h t = some (.inl (cI, 40, .inl sv0))) (hcl : h cl = some (.inr (0, [.ref cc, .int (nI n)]))) (hcc : h cc = some (.inl (cI, 30, .inl cs))) (x1 : cc ≠ du) (x2 : cc ≠ q) (x3 : cc ≠ t) (hok : ∀ j, okc (cs j)) (hok2 : ∀ j, okc (qv0 j)) : gC l g mWO_prepare (gr 2) [.ref o, .ref cl, .int sk] h (fun r h' => r = none ∧ ∃ dv qv sv : Nat → Int32, h' = gh4 du q t o (.inl (cI, 30, .inl dv)) (.inl (cI, 30, .inl qv)) (.inl (cI, 40, .inl sv)) (.inr (4, fWO N (nI M) a w tk q du t 1000000 1000000 (-1) (0, 0, 0, 0))) h ∧ queued n M (dueS N cs sk) cs qv sv ∧ ∀ j, okc (qv j))  := by
  have hQ : ∃ Q : Option Value → gH → Prop, Q = (fun r h' => r = none ∧ ∃ dv qv sv : Nat → Int32, h' = gh4 du q t o (.inl (cI, 30, .inl dv)) (.inl (cI, 30, .inl qv)) (.inl (cI, 40, .inl sv)) (.inr (4, fWO N (nI M) a w tk q du t 1000000 1000000 (-1) (0, 0, 0, 0))) h ∧ queued n M (dueS N cs sk) cs qv sv ∧ ∀ j, okc (qv j)) ∧ ∀ dv qv sv : Nat → Int32, queued n M (dueS N cs sk) cs qv sv → (∀ j, okc (qv j)) → Q none (gh4 du q t o (.inl (cI, 30, .inl dv)) (.inl (cI, 30, .inl qv)) (.inl (cI, 40, .inl sv)) (.inr (4, fWO N (nI M) a w tk q du t 1000000 1000000 (-1) (0, 0, 0, 0))) h) := ⟨_, rfl, fun dv qv sv h1 h2 => ⟨rfl, dv, qv, sv, rfl, h1, h2⟩⟩
  obtain ⟨Q, hQe, hQ⟩ := hQ
  rw [← hQe]
  clear hQe
  obtain ⟨FS, hFS⟩ : ∃ FS : List Value, FS = fWO N (nI M) a w tk q du t 1000000 1000000 (-1) (0, 0, 0, 0) := ⟨_, rfl⟩
  rw [← hFS] at hQ
  have f0 : FS[0]? = some (.int N) := by rw [hFS]; rfl
  have f1 : FS[1]? = some (.int (nI M)) := by rw [hFS]; rfl
  have f5 : FS[5]? = some (.ref q) := by rw [hFS]; rfl
  have f6 : FS[6]? = some (.ref du) := by rw [hFS]; rfl
  have f7 : FS[7]? = some (.ref t) := by rw [hFS]; rfl
  have ne : ∀ {p q : Nat} {x y : va_E}, h p = some x → h q = some y → x ≠ y → p ≠ q := fun hp hq hn e => hn (Option.some.inj (hp.symm.trans (e ▸ hq)))
  have y1 : cl ≠ du := ne hcl hdu (by intro z; cases z)
  have y2 : cl ≠ q := ne hcl hq (by intro z; cases z)
  have y3 : cl ≠ t := ne hcl ht (by intro z; cases z)
  have y4 : cl ≠ o := ne hcl ho (by intro z; cases z)
  have x4 : cc ≠ o := ne hcc ho (by intro z; cases z)
  have gcl : ∀ {e0 e1 e2 e3 : va_E}, gh4 du q t o e0 e1 e2 e3 h cl = some (.inr (0, [.ref cc, .int (nI n)])) := by
    intro e0 e1 e2 e3
    rw [gh4_x y1 y2 y3 y4]
    exact hcl
  have gcc : ∀ {e0 e1 e2 e3 : va_E}, gh4 du q t o e0 e1 e2 e3 h cc = some (.inl (cI, 30, .inl cs)) := by
    intro e0 e1 e2 e3
    rw [gh4_x x1 x2 x3 x4]
    exact hcc
  have loop2 : ∀ (m i : Nat) (dv qv sv : Nat → Int32) (H : gH), i + m = M → H = gh4 du q t o (.inl (cI, 30, .inl dv)) (.inl (cI, 30, .inl qv)) (.inl (cI, 40, .inl sv)) (.inr (4, FS)) h → (∀ j, j < n → dv j = dueS N cs sk j) → (∀ j, okc (qv j)) → (∀ j, j < i → sv j = nI (szF (dueS N cs sk) n j)) → (∀ j x, (allI (dueS N cs sk) n i)[j]? = some x → qv j = cs x) → gw l g mWO_prepare (gr 2) h (gZm g h 0 0 Q) 0 0 83 [some (.ref o), some (.ref cl), some (.int sk), some (.int (nI (szF (dueS N cs sk) n i))), some (.int (nI i)), none] [] H := by
    intro m
    induction m with
    | zero =>
      intro i dv qv sv H hi hH hd hk hs hqv
      have k0 : H du = _ := hH ▸ gh4_g0 d4
      have k1 : H q = _ := hH ▸ gh4_g1 d4
      have k2 : H t = _ := hH ▸ gh4_g2 d4
      have k3 : H o = _ := hH ▸ gh4_g3 d4
      have k4 : H cl = _ := hH ▸ gcl
      have k5 : H cc = _ := hH ▸ gcc
      have hi2 : i = M := by omega
      subst hi2
      have hz : nI i ≤ nI i := nI_le (Nat.le_refl _) (by omega)
      have c1 : (nI i).toNatClampNeg = i := nI_clamp (by omega)
      have v1 : vp_in (nI i) 40 := vp_in_nI (by omega) (by omega)
      refine gw_ev (T := gT2w) 60 [39, 83, 103] gRt_m ⟨2, kgT2w, gr_ge (by first | decide | omega), ⟨Nat.le_refl _, Nat.le_refl _⟩⟩ ?_
      simp only [vc_i, vc_l, vc_r, vc_n, Nat.succ_ne_self, gSd_s, gEd_s, gEd_0, gEd_B, gB_t, gB_f, gGo_c, gGo_n, gAll_n, gAll_c, gwK_s, gCT, gCF, gSet, gSet2, gKill, gTw, gTs, gLs, List.map_cons, List.map_nil, fv0, fv1, fv2, fv3, List.getElem?_cons_zero, List.getElem?_cons_succ, List.set_cons_zero, List.set_cons_succ, List.not_mem_nil, List.mem_cons, Option.toList_some, Option.toList_none, List.cons_append, List.nil_append, if_false, if_true, true_and, and_true, forall_const, true_implies, false_implies, or_false, false_or, not_true_eq_false, not_false_eq_true, and_false, false_and, implies_true, Nat.reduceAdd, Nat.reduceEqDiff, Nat.reduceLT, ↓reduceIte, cls_WO_prepare, st_aload_n, st_ldc, st_putfield, st_iconst, st_istore_n, st_iload_n, st_getfield, st_if_icmp, st_goto, st_iaload, st_invokevirtual, st_iastore, st_iinc, st_istore, st_iload, st_return_, (show mWO_prepare.2.2.1 = 6 from rfl), ki_WO_79, fp_WO_prepare_41, fp_WO_prepare_57, fp_WO_prepare_63, fp_WO_prepare_48, fp_WO_prepare_60, fp_WO_prepare_66, fp_WO_prepare_80, gF_WO_84, gF_WO_24, gF_WO_89, tn_WO_92, gT2w_21, gp_WO_dueAt, ms_21, gCs_n, gCs_c, Nat.reduceLeDiff, gF_WO_34, gF_WO_27, gF_WO_21, dWO_prepare_0, dWO_prepare_1, dWO_prepare_3, dWO_prepare_6, dWO_prepare_7, dWO_prepare_9, dWO_prepare_12, dWO_prepare_13, ic_m1, dWO_prepare_14, dWO_prepare_17, dWO_prepare_18, ic_0, dWO_prepare_19, dWO_prepare_22, dWO_prepare_23, dWO_prepare_24, dWO_prepare_27, dWO_prepare_28, dWO_prepare_29, dWO_prepare_32, dWO_prepare_33, dWO_prepare_34, dWO_prepare_37, dWO_prepare_38, dWO_prepare_39, dWO_prepare_40, dWO_prepare_41, dWO_prepare_44, tg_44_34, tz_44_34, dWO_prepare_47, dWO_prepare_48, dWO_prepare_51, dWO_prepare_52, dWO_prepare_53, dWO_prepare_54, tg_54_7, tz_54_7, dWO_prepare_57, dWO_prepare_58, tg_58_13, tz_58_13, dWO_prepare_61, dWO_prepare_62, dWO_prepare_63, dWO_prepare_66, dWO_prepare_67, dWO_prepare_68, dWO_prepare_71, dWO_prepare_72, ic_1, dWO_prepare_75, tg_75_m36, tz_75_m36, dWO_prepare_78, dWO_prepare_79, dWO_prepare_80, dWO_prepare_81, dWO_prepare_83, dWO_prepare_85, dWO_prepare_86, dWO_prepare_89, tg_89_63, tz_89_63, dWO_prepare_92, dWO_prepare_93, dWO_prepare_96, dWO_prepare_98, dWO_prepare_99, dWO_prepare_100, dWO_prepare_101, dWO_prepare_103, dWO_prepare_105, dWO_prepare_106, dWO_prepare_109, tg_109_37, tz_109_37, dWO_prepare_112, dWO_prepare_113, dWO_prepare_116, dWO_prepare_118, dWO_prepare_119, dWO_prepare_121, tg_121_19, tz_121_19, dWO_prepare_124, dWO_prepare_125, dWO_prepare_128, dWO_prepare_129, dWO_prepare_130, dWO_prepare_133, dWO_prepare_135, dWO_prepare_136, dWO_prepare_137, dWO_prepare_140, dWO_prepare_143, tg_143_m40, tz_143_m40, dWO_prepare_146, dWO_prepare_149, tg_149_m66, tz_149_m66, dWO_prepare_152, dWO_prepare_153, dWO_prepare_156, dWO_prepare_157, dWO_prepare_160, dWO_prepare_161, dWO_prepare_162, k0, k1, k2, k3, k4, k5, f0, f1, f5, f6, f7, hz, c1]
      refine ⟨⟨hcI, v1⟩, rfl, ?_⟩
      rw [hH, gh4_p2 d4]
      refine hQ dv qv _ (queued_of (by omega) (fun j hj => ?_) hqv) hk
      by_cases hj2 : j = i
      · subst hj2
        exact if_pos rfl
      · exact (if_neg hj2).trans (hs j (by omega))
    | succ m ih =>
      intro i dv qv sv H hi hH hd hk hs hqv
      have k0 : H du = _ := hH ▸ gh4_g0 d4
      have k1 : H q = _ := hH ▸ gh4_g1 d4
      have k2 : H t = _ := hH ▸ gh4_g2 d4
      have k3 : H o = _ := hH ▸ gh4_g3 d4
      have k4 : H cl = _ := hH ▸ gcl
      have k5 : H cc = _ := hH ▸ gcc
      have hz : ¬ nI M ≤ nI i := nI_ge (by omega) (by omega)
      have c1 : (nI i).toNatClampNeg = i := nI_clamp (by omega)
      have v1 : vp_in (nI i) 40 := vp_in_nI (by omega) (by omega)
      have loop3 : ∀ (m3 k : Nat) (qv : Nat → Int32) (H : gH), k + m3 = n → H = gh4 du q t o (.inl (cI, 30, .inl dv)) (.inl (cI, 30, .inl qv)) (.inl (cI, 40, .inl (upd sv i (nI (szF (dueS N cs sk) n i))))) (.inr (4, FS)) h → (∀ j, okc (qv j)) → (∀ j x, (allI (dueS N cs sk) n i ++ dueI (dueS N cs sk) k i)[j]? = some x → qv j = cs x) → gw l g mWO_prepare (gr 2) h (gZm g h 0 0 Q) 0 0 103 [some (.ref o), some (.ref cl), some (.int sk), some (.int (nI (allI (dueS N cs sk) n i ++ dueI (dueS N cs sk) k i).length)), some (.int (nI i)), some (.int (nI k))] [] H := by
        intro m3
        induction m3 with
        | zero =>
          intro k qv H hk3 hH hk hqv
          have k0 : H du = _ := hH ▸ gh4_g0 d4
          have k1 : H q = _ := hH ▸ gh4_g1 d4
          have k2 : H t = _ := hH ▸ gh4_g2 d4
          have k3 : H o = _ := hH ▸ gh4_g3 d4
          have k4 : H cl = _ := hH ▸ gcl
          have k5 : H cc = _ := hH ▸ gcc
          have hk4 : k = n := by omega
          subst hk4
          have hz : nI k ≤ nI k := nI_le (Nat.le_refl _) (by omega)
          refine gw_ev (T := gT2w) 60 [39, 83, 103] gRt_m ⟨2, kgT2w, gr_ge (by first | decide | omega), ⟨Nat.le_refl _, Nat.le_refl _⟩⟩ ?_
          simp only [vc_i, vc_l, vc_r, vc_n, Nat.succ_ne_self, gSd_s, gEd_s, gEd_0, gEd_B, gB_t, gB_f, gGo_c, gGo_n, gAll_n, gAll_c, gwK_s, gCT, gCF, gSet, gSet2, gKill, gTw, gTs, gLs, List.map_cons, List.map_nil, fv0, fv1, fv2, fv3, List.getElem?_cons_zero, List.getElem?_cons_succ, List.set_cons_zero, List.set_cons_succ, List.not_mem_nil, List.mem_cons, Option.toList_some, Option.toList_none, List.cons_append, List.nil_append, if_false, if_true, true_and, and_true, forall_const, true_implies, false_implies, or_false, false_or, not_true_eq_false, not_false_eq_true, and_false, false_and, implies_true, Nat.reduceAdd, Nat.reduceEqDiff, Nat.reduceLT, ↓reduceIte, cls_WO_prepare, st_aload_n, st_ldc, st_putfield, st_iconst, st_istore_n, st_iload_n, st_getfield, st_if_icmp, st_goto, st_iaload, st_invokevirtual, st_iastore, st_iinc, st_istore, st_iload, st_return_, (show mWO_prepare.2.2.1 = 6 from rfl), ki_WO_79, fp_WO_prepare_41, fp_WO_prepare_57, fp_WO_prepare_63, fp_WO_prepare_48, fp_WO_prepare_60, fp_WO_prepare_66, fp_WO_prepare_80, gF_WO_84, gF_WO_24, gF_WO_89, tn_WO_92, gT2w_21, gp_WO_dueAt, ms_21, gCs_n, gCs_c, Nat.reduceLeDiff, gF_WO_34, gF_WO_27, gF_WO_21, dWO_prepare_0, dWO_prepare_1, dWO_prepare_3, dWO_prepare_6, dWO_prepare_7, dWO_prepare_9, dWO_prepare_12, dWO_prepare_13, ic_m1, dWO_prepare_14, dWO_prepare_17, dWO_prepare_18, ic_0, dWO_prepare_19, dWO_prepare_22, dWO_prepare_23, dWO_prepare_24, dWO_prepare_27, dWO_prepare_28, dWO_prepare_29, dWO_prepare_32, dWO_prepare_33, dWO_prepare_34, dWO_prepare_37, dWO_prepare_38, dWO_prepare_39, dWO_prepare_40, dWO_prepare_41, dWO_prepare_44, tg_44_34, tz_44_34, dWO_prepare_47, dWO_prepare_48, dWO_prepare_51, dWO_prepare_52, dWO_prepare_53, dWO_prepare_54, tg_54_7, tz_54_7, dWO_prepare_57, dWO_prepare_58, tg_58_13, tz_58_13, dWO_prepare_61, dWO_prepare_62, dWO_prepare_63, dWO_prepare_66, dWO_prepare_67, dWO_prepare_68, dWO_prepare_71, dWO_prepare_72, ic_1, dWO_prepare_75, tg_75_m36, tz_75_m36, dWO_prepare_78, dWO_prepare_79, dWO_prepare_80, dWO_prepare_81, dWO_prepare_83, dWO_prepare_85, dWO_prepare_86, dWO_prepare_89, tg_89_63, tz_89_63, dWO_prepare_92, dWO_prepare_93, dWO_prepare_96, dWO_prepare_98, dWO_prepare_99, dWO_prepare_100, dWO_prepare_101, dWO_prepare_103, dWO_prepare_105, dWO_prepare_106, dWO_prepare_109, tg_109_37, tz_109_37, dWO_prepare_112, dWO_prepare_113, dWO_prepare_116, dWO_prepare_118, dWO_prepare_119, dWO_prepare_121, tg_121_19, tz_121_19, dWO_prepare_124, dWO_prepare_125, dWO_prepare_128, dWO_prepare_129, dWO_prepare_130, dWO_prepare_133, dWO_prepare_135, dWO_prepare_136, dWO_prepare_137, dWO_prepare_140, dWO_prepare_143, tg_143_m40, tz_143_m40, dWO_prepare_146, dWO_prepare_149, tg_149_m66, tz_149_m66, dWO_prepare_152, dWO_prepare_153, dWO_prepare_156, dWO_prepare_157, dWO_prepare_160, dWO_prepare_161, dWO_prepare_162, k4, hz, nI_1]
          refine gw_less (lv' := [some (.ref o), some (.ref cl), some (.int sk), some (.int (nI (allI (dueS N cs sk) k i ++ dueI (dueS N cs sk) k i).length)), some (.int (nI (i + 1))), none]) (by simp [gLe]) (ih (i + 1) dv qv _ H (by omega) hH hd hk (fun j hj => ?_) hqv)
          by_cases hj2 : j = i
          · subst hj2
            exact if_pos rfl
          · exact (if_neg hj2).trans (hs j (by omega))
        | succ m3 ih3 =>
          intro k qv H hk3 hH hk hqv
          have k0 : H du = _ := hH ▸ gh4_g0 d4
          have k1 : H q = _ := hH ▸ gh4_g1 d4
          have k2 : H t = _ := hH ▸ gh4_g2 d4
          have k3 : H o = _ := hH ▸ gh4_g3 d4
          have k4 : H cl = _ := hH ▸ gcl
          have k5 : H cc = _ := hH ▸ gcc
          have hz : ¬ nI n ≤ nI k := nI_ge (by omega) (by omega)
          have c2 : (nI k).toNatClampNeg = k := nI_clamp (by omega)
          have v2 : vp_in (nI k) 30 := vp_in_nI (by omega) (by omega)
          have hdk := hd k (by omega)
          by_cases he : dueS N cs sk k = nI i
          · have hlen : (allI (dueS N cs sk) n i ++ dueI (dueS N cs sk) k i).length < n := by
              have := nd_len n (allI (dueS N cs sk) n i ++ dueI (dueS N cs sk) (k + 1) i) (allI_nd (by omega) (k + 1)) (fun x hx => by
                rcases List.mem_append.mp hx with h1 | h1
                · exact (allI_mem.mp h1).1
                · have := (dueI_mem.mp h1).1
                  omega)
              rw [dueI_y he, ← List.append_assoc, List.length_append] at this
              exact this
            have c3 := nI_clamp (n := (allI (dueS N cs sk) n i ++ dueI (dueS N cs sk) k i).length) (by omega)
            have v3 := vp_in_nI (n := (allI (dueS N cs sk) n i ++ dueI (dueS N cs sk) k i).length) (N := 30) (by omega) (by omega)
            have e3 : (allI (dueS N cs sk) n i ++ dueI (dueS N cs sk) (k + 1) i).length = (allI (dueS N cs sk) n i ++ dueI (dueS N cs sk) k i).length + 1 := by
              rw [dueI_y he, ← List.append_assoc, List.length_append]
              rfl
            have h9 := ih3 (k + 1) (upd qv (allI (dueS N cs sk) n i ++ dueI (dueS N cs sk) k i).length (cs k)) (gup H q (.inl (cI, 30, .inl (upd qv (allI (dueS N cs sk) n i ++ dueI (dueS N cs sk) k i).length (cs k))))) (by omega) (by rw [hH, gh4_p1 d4]) (fun j => ?_) (fun j x hx => ?_)
            · rw [e3] at h9
              generalize (allI (dueS N cs sk) n i ++ dueI (dueS N cs sk) k i).length = len at c3 v3 h9 ⊢
              rw [← hdk] at he
              refine gw_ev (T := gT2w) 60 [39, 83, 103] gRt_m ⟨2, kgT2w, gr_ge (by first | decide | omega), ⟨Nat.le_refl _, Nat.le_refl _⟩⟩ ?_
              simp only [vc_i, vc_l, vc_r, vc_n, Nat.succ_ne_self, gSd_s, gEd_s, gEd_0, gEd_B, gB_t, gB_f, gGo_c, gGo_n, gAll_n, gAll_c, gwK_s, gCT, gCF, gSet, gSet2, gKill, gTw, gTs, gLs, List.map_cons, List.map_nil, fv0, fv1, fv2, fv3, List.getElem?_cons_zero, List.getElem?_cons_succ, List.set_cons_zero, List.set_cons_succ, List.not_mem_nil, List.mem_cons, Option.toList_some, Option.toList_none, List.cons_append, List.nil_append, if_false, if_true, true_and, and_true, forall_const, true_implies, false_implies, or_false, false_or, not_true_eq_false, not_false_eq_true, and_false, false_and, implies_true, Nat.reduceAdd, Nat.reduceEqDiff, Nat.reduceLT, ↓reduceIte, cls_WO_prepare, st_aload_n, st_ldc, st_putfield, st_iconst, st_istore_n, st_iload_n, st_getfield, st_if_icmp, st_goto, st_iaload, st_invokevirtual, st_iastore, st_iinc, st_istore, st_iload, st_return_, (show mWO_prepare.2.2.1 = 6 from rfl), ki_WO_79, fp_WO_prepare_41, fp_WO_prepare_57, fp_WO_prepare_63, fp_WO_prepare_48, fp_WO_prepare_60, fp_WO_prepare_66, fp_WO_prepare_80, gF_WO_84, gF_WO_24, gF_WO_89, tn_WO_92, gT2w_21, gp_WO_dueAt, ms_21, gCs_n, gCs_c, Nat.reduceLeDiff, gF_WO_34, gF_WO_27, gF_WO_21, dWO_prepare_0, dWO_prepare_1, dWO_prepare_3, dWO_prepare_6, dWO_prepare_7, dWO_prepare_9, dWO_prepare_12, dWO_prepare_13, ic_m1, dWO_prepare_14, dWO_prepare_17, dWO_prepare_18, ic_0, dWO_prepare_19, dWO_prepare_22, dWO_prepare_23, dWO_prepare_24, dWO_prepare_27, dWO_prepare_28, dWO_prepare_29, dWO_prepare_32, dWO_prepare_33, dWO_prepare_34, dWO_prepare_37, dWO_prepare_38, dWO_prepare_39, dWO_prepare_40, dWO_prepare_41, dWO_prepare_44, tg_44_34, tz_44_34, dWO_prepare_47, dWO_prepare_48, dWO_prepare_51, dWO_prepare_52, dWO_prepare_53, dWO_prepare_54, tg_54_7, tz_54_7, dWO_prepare_57, dWO_prepare_58, tg_58_13, tz_58_13, dWO_prepare_61, dWO_prepare_62, dWO_prepare_63, dWO_prepare_66, dWO_prepare_67, dWO_prepare_68, dWO_prepare_71, dWO_prepare_72, ic_1, dWO_prepare_75, tg_75_m36, tz_75_m36, dWO_prepare_78, dWO_prepare_79, dWO_prepare_80, dWO_prepare_81, dWO_prepare_83, dWO_prepare_85, dWO_prepare_86, dWO_prepare_89, tg_89_63, tz_89_63, dWO_prepare_92, dWO_prepare_93, dWO_prepare_96, dWO_prepare_98, dWO_prepare_99, dWO_prepare_100, dWO_prepare_101, dWO_prepare_103, dWO_prepare_105, dWO_prepare_106, dWO_prepare_109, tg_109_37, tz_109_37, dWO_prepare_112, dWO_prepare_113, dWO_prepare_116, dWO_prepare_118, dWO_prepare_119, dWO_prepare_121, tg_121_19, tz_121_19, dWO_prepare_124, dWO_prepare_125, dWO_prepare_128, dWO_prepare_129, dWO_prepare_130, dWO_prepare_133, dWO_prepare_135, dWO_prepare_136, dWO_prepare_137, dWO_prepare_140, dWO_prepare_143, tg_143_m40, tz_143_m40, dWO_prepare_146, dWO_prepare_149, tg_149_m66, tz_149_m66, dWO_prepare_152, dWO_prepare_153, dWO_prepare_156, dWO_prepare_157, dWO_prepare_160, dWO_prepare_161, dWO_prepare_162, k0, k1, k2, k3, k4, k5, f0, f1, f5, f6, f7, hz, c2, c3, he, nI_1]
              exact ⟨⟨hcI, v2⟩, ⟨hcI, v2⟩, ⟨hcI, v3⟩, h9⟩
            · by_cases hj : j = (allI (dueS N cs sk) n i ++ dueI (dueS N cs sk) k i).length
              · rw [hj, show upd qv _ (cs k) _ = cs k from if_pos rfl]
                exact hok k
              · rw [show upd qv _ (cs k) j = qv j from if_neg hj]
                exact hk j
            · rw [dueI_y he, ← List.append_assoc] at hx
              by_cases hj : j < (allI (dueS N cs sk) n i ++ dueI (dueS N cs sk) k i).length
              · rw [List.getElem?_append_left hj] at hx
                exact (if_neg (by omega)).trans (hqv j x hx)
              · rw [List.getElem?_append_right (by omega)] at hx
                have hj2 : j = (allI (dueS N cs sk) n i ++ dueI (dueS N cs sk) k i).length := by
                  have := (List.getElem?_eq_some_iff.mp hx).1
                  simp only [List.length_cons, List.length_nil] at this
                  omega
                rw [hj2, Nat.sub_self] at hx
                cases hx
                rw [hj2]
                exact if_pos rfl
          · have h9 := ih3 (k + 1) qv H (by omega) hH hk (by rw [dueI_n he]; exact hqv)
            rw [dueI_n he] at h9
            rw [← hdk] at he
            refine gw_ev (T := gT2w) 60 [39, 83, 103] gRt_m ⟨2, kgT2w, gr_ge (by first | decide | omega), ⟨Nat.le_refl _, Nat.le_refl _⟩⟩ ?_
            simp only [vc_i, vc_l, vc_r, vc_n, Nat.succ_ne_self, gSd_s, gEd_s, gEd_0, gEd_B, gB_t, gB_f, gGo_c, gGo_n, gAll_n, gAll_c, gwK_s, gCT, gCF, gSet, gSet2, gKill, gTw, gTs, gLs, List.map_cons, List.map_nil, fv0, fv1, fv2, fv3, List.getElem?_cons_zero, List.getElem?_cons_succ, List.set_cons_zero, List.set_cons_succ, List.not_mem_nil, List.mem_cons, Option.toList_some, Option.toList_none, List.cons_append, List.nil_append, if_false, if_true, true_and, and_true, forall_const, true_implies, false_implies, or_false, false_or, not_true_eq_false, not_false_eq_true, and_false, false_and, implies_true, Nat.reduceAdd, Nat.reduceEqDiff, Nat.reduceLT, ↓reduceIte, cls_WO_prepare, st_aload_n, st_ldc, st_putfield, st_iconst, st_istore_n, st_iload_n, st_getfield, st_if_icmp, st_goto, st_iaload, st_invokevirtual, st_iastore, st_iinc, st_istore, st_iload, st_return_, (show mWO_prepare.2.2.1 = 6 from rfl), ki_WO_79, fp_WO_prepare_41, fp_WO_prepare_57, fp_WO_prepare_63, fp_WO_prepare_48, fp_WO_prepare_60, fp_WO_prepare_66, fp_WO_prepare_80, gF_WO_84, gF_WO_24, gF_WO_89, tn_WO_92, gT2w_21, gp_WO_dueAt, ms_21, gCs_n, gCs_c, Nat.reduceLeDiff, gF_WO_34, gF_WO_27, gF_WO_21, dWO_prepare_0, dWO_prepare_1, dWO_prepare_3, dWO_prepare_6, dWO_prepare_7, dWO_prepare_9, dWO_prepare_12, dWO_prepare_13, ic_m1, dWO_prepare_14, dWO_prepare_17, dWO_prepare_18, ic_0, dWO_prepare_19, dWO_prepare_22, dWO_prepare_23, dWO_prepare_24, dWO_prepare_27, dWO_prepare_28, dWO_prepare_29, dWO_prepare_32, dWO_prepare_33, dWO_prepare_34, dWO_prepare_37, dWO_prepare_38, dWO_prepare_39, dWO_prepare_40, dWO_prepare_41, dWO_prepare_44, tg_44_34, tz_44_34, dWO_prepare_47, dWO_prepare_48, dWO_prepare_51, dWO_prepare_52, dWO_prepare_53, dWO_prepare_54, tg_54_7, tz_54_7, dWO_prepare_57, dWO_prepare_58, tg_58_13, tz_58_13, dWO_prepare_61, dWO_prepare_62, dWO_prepare_63, dWO_prepare_66, dWO_prepare_67, dWO_prepare_68, dWO_prepare_71, dWO_prepare_72, ic_1, dWO_prepare_75, tg_75_m36, tz_75_m36, dWO_prepare_78, dWO_prepare_79, dWO_prepare_80, dWO_prepare_81, dWO_prepare_83, dWO_prepare_85, dWO_prepare_86, dWO_prepare_89, tg_89_63, tz_89_63, dWO_prepare_92, dWO_prepare_93, dWO_prepare_96, dWO_prepare_98, dWO_prepare_99, dWO_prepare_100, dWO_prepare_101, dWO_prepare_103, dWO_prepare_105, dWO_prepare_106, dWO_prepare_109, tg_109_37, tz_109_37, dWO_prepare_112, dWO_prepare_113, dWO_prepare_116, dWO_prepare_118, dWO_prepare_119, dWO_prepare_121, tg_121_19, tz_121_19, dWO_prepare_124, dWO_prepare_125, dWO_prepare_128, dWO_prepare_129, dWO_prepare_130, dWO_prepare_133, dWO_prepare_135, dWO_prepare_136, dWO_prepare_137, dWO_prepare_140, dWO_prepare_143, tg_143_m40, tz_143_m40, dWO_prepare_146, dWO_prepare_149, tg_149_m66, tz_149_m66, dWO_prepare_152, dWO_prepare_153, dWO_prepare_156, dWO_prepare_157, dWO_prepare_160, dWO_prepare_161, dWO_prepare_162, k0, k1, k2, k3, k4, k5, f0, f1, f5, f6, f7, hz, c2, he, nI_1]
            exact ⟨⟨hcI, v2⟩, h9⟩
      have h9 := loop3 n 0 qv (gup H t (.inl (cI, 40, .inl (upd sv i (nI (szF (dueS N cs sk) n i)))))) (by omega) (by rw [hH, gh4_p2 d4]) hk (by simpa [dueI] using hqv)
      rw [nI_0, show dueI (dueS N cs sk) 0 i = [] from rfl, List.append_nil] at h9
      refine gw_ev (T := gT2w) 60 [39, 83, 103] gRt_m ⟨2, kgT2w, gr_ge (by first | decide | omega), ⟨Nat.le_refl _, Nat.le_refl _⟩⟩ ?_
      simp only [vc_i, vc_l, vc_r, vc_n, Nat.succ_ne_self, gSd_s, gEd_s, gEd_0, gEd_B, gB_t, gB_f, gGo_c, gGo_n, gAll_n, gAll_c, gwK_s, gCT, gCF, gSet, gSet2, gKill, gTw, gTs, gLs, List.map_cons, List.map_nil, fv0, fv1, fv2, fv3, List.getElem?_cons_zero, List.getElem?_cons_succ, List.set_cons_zero, List.set_cons_succ, List.not_mem_nil, List.mem_cons, Option.toList_some, Option.toList_none, List.cons_append, List.nil_append, if_false, if_true, true_and, and_true, forall_const, true_implies, false_implies, or_false, false_or, not_true_eq_false, not_false_eq_true, and_false, false_and, implies_true, Nat.reduceAdd, Nat.reduceEqDiff, Nat.reduceLT, ↓reduceIte, cls_WO_prepare, st_aload_n, st_ldc, st_putfield, st_iconst, st_istore_n, st_iload_n, st_getfield, st_if_icmp, st_goto, st_iaload, st_invokevirtual, st_iastore, st_iinc, st_istore, st_iload, st_return_, (show mWO_prepare.2.2.1 = 6 from rfl), ki_WO_79, fp_WO_prepare_41, fp_WO_prepare_57, fp_WO_prepare_63, fp_WO_prepare_48, fp_WO_prepare_60, fp_WO_prepare_66, fp_WO_prepare_80, gF_WO_84, gF_WO_24, gF_WO_89, tn_WO_92, gT2w_21, gp_WO_dueAt, ms_21, gCs_n, gCs_c, Nat.reduceLeDiff, gF_WO_34, gF_WO_27, gF_WO_21, dWO_prepare_0, dWO_prepare_1, dWO_prepare_3, dWO_prepare_6, dWO_prepare_7, dWO_prepare_9, dWO_prepare_12, dWO_prepare_13, ic_m1, dWO_prepare_14, dWO_prepare_17, dWO_prepare_18, ic_0, dWO_prepare_19, dWO_prepare_22, dWO_prepare_23, dWO_prepare_24, dWO_prepare_27, dWO_prepare_28, dWO_prepare_29, dWO_prepare_32, dWO_prepare_33, dWO_prepare_34, dWO_prepare_37, dWO_prepare_38, dWO_prepare_39, dWO_prepare_40, dWO_prepare_41, dWO_prepare_44, tg_44_34, tz_44_34, dWO_prepare_47, dWO_prepare_48, dWO_prepare_51, dWO_prepare_52, dWO_prepare_53, dWO_prepare_54, tg_54_7, tz_54_7, dWO_prepare_57, dWO_prepare_58, tg_58_13, tz_58_13, dWO_prepare_61, dWO_prepare_62, dWO_prepare_63, dWO_prepare_66, dWO_prepare_67, dWO_prepare_68, dWO_prepare_71, dWO_prepare_72, ic_1, dWO_prepare_75, tg_75_m36, tz_75_m36, dWO_prepare_78, dWO_prepare_79, dWO_prepare_80, dWO_prepare_81, dWO_prepare_83, dWO_prepare_85, dWO_prepare_86, dWO_prepare_89, tg_89_63, tz_89_63, dWO_prepare_92, dWO_prepare_93, dWO_prepare_96, dWO_prepare_98, dWO_prepare_99, dWO_prepare_100, dWO_prepare_101, dWO_prepare_103, dWO_prepare_105, dWO_prepare_106, dWO_prepare_109, tg_109_37, tz_109_37, dWO_prepare_112, dWO_prepare_113, dWO_prepare_116, dWO_prepare_118, dWO_prepare_119, dWO_prepare_121, tg_121_19, tz_121_19, dWO_prepare_124, dWO_prepare_125, dWO_prepare_128, dWO_prepare_129, dWO_prepare_130, dWO_prepare_133, dWO_prepare_135, dWO_prepare_136, dWO_prepare_137, dWO_prepare_140, dWO_prepare_143, tg_143_m40, tz_143_m40, dWO_prepare_146, dWO_prepare_149, tg_149_m66, tz_149_m66, dWO_prepare_152, dWO_prepare_153, dWO_prepare_156, dWO_prepare_157, dWO_prepare_160, dWO_prepare_161, dWO_prepare_162, k0, k1, k2, k3, k4, k5, f0, f1, f5, f6, f7, hz, c1]
      exact ⟨⟨hcI, v1⟩, h9⟩
  have loop1 : ∀ (m k : Nat) (dv : Nat → Int32) (H : gH), k + m = n → H = gh4 du q t o (.inl (cI, 30, .inl dv)) (.inl (cI, 30, .inl qv0)) (.inl (cI, 40, .inl sv0)) (.inr (4, FS)) h → (∀ j, j < k → dv j = dueS N cs sk j) → gw l g mWO_prepare (gr 2) h (gZm g h 0 0 Q) 0 0 39 [some (.ref o), some (.ref cl), some (.int sk), some (.int (nI k)), none, none] [] H := by
    intro m
    induction m with
    | zero =>
      intro k dv H hk hH hd
      have k0 : H du = _ := hH ▸ gh4_g0 d4
      have k1 : H q = _ := hH ▸ gh4_g1 d4
      have k2 : H t = _ := hH ▸ gh4_g2 d4
      have k3 : H o = _ := hH ▸ gh4_g3 d4
      have k4 : H cl = _ := hH ▸ gcl
      have k5 : H cc = _ := hH ▸ gcc
      have hz : nI n ≤ nI k := nI_le (by omega) (by omega)
      have h9 := loop2 M 0 dv qv0 sv0 H (by omega) hH (fun j hj => hd j (by omega)) hok2 (fun j hj => absurd hj (Nat.not_lt_zero _)) (fun j x hx => by simp [allI] at hx)
      rw [show szF (dueS N cs sk) n 0 = 0 from rfl, nI_0] at h9
      refine gw_ev (T := gT2w) 60 [39, 83, 103] gRt_m ⟨2, kgT2w, gr_ge (by first | decide | omega), ⟨Nat.le_refl _, Nat.le_refl _⟩⟩ ?_
      simp only [vc_i, vc_l, vc_r, vc_n, Nat.succ_ne_self, gSd_s, gEd_s, gEd_0, gEd_B, gB_t, gB_f, gGo_c, gGo_n, gAll_n, gAll_c, gwK_s, gCT, gCF, gSet, gSet2, gKill, gTw, gTs, gLs, List.map_cons, List.map_nil, fv0, fv1, fv2, fv3, List.getElem?_cons_zero, List.getElem?_cons_succ, List.set_cons_zero, List.set_cons_succ, List.not_mem_nil, List.mem_cons, Option.toList_some, Option.toList_none, List.cons_append, List.nil_append, if_false, if_true, true_and, and_true, forall_const, true_implies, false_implies, or_false, false_or, not_true_eq_false, not_false_eq_true, and_false, false_and, implies_true, Nat.reduceAdd, Nat.reduceEqDiff, Nat.reduceLT, ↓reduceIte, cls_WO_prepare, st_aload_n, st_ldc, st_putfield, st_iconst, st_istore_n, st_iload_n, st_getfield, st_if_icmp, st_goto, st_iaload, st_invokevirtual, st_iastore, st_iinc, st_istore, st_iload, st_return_, (show mWO_prepare.2.2.1 = 6 from rfl), ki_WO_79, fp_WO_prepare_41, fp_WO_prepare_57, fp_WO_prepare_63, fp_WO_prepare_48, fp_WO_prepare_60, fp_WO_prepare_66, fp_WO_prepare_80, gF_WO_84, gF_WO_24, gF_WO_89, tn_WO_92, gT2w_21, gp_WO_dueAt, ms_21, gCs_n, gCs_c, Nat.reduceLeDiff, gF_WO_34, gF_WO_27, gF_WO_21, dWO_prepare_0, dWO_prepare_1, dWO_prepare_3, dWO_prepare_6, dWO_prepare_7, dWO_prepare_9, dWO_prepare_12, dWO_prepare_13, ic_m1, dWO_prepare_14, dWO_prepare_17, dWO_prepare_18, ic_0, dWO_prepare_19, dWO_prepare_22, dWO_prepare_23, dWO_prepare_24, dWO_prepare_27, dWO_prepare_28, dWO_prepare_29, dWO_prepare_32, dWO_prepare_33, dWO_prepare_34, dWO_prepare_37, dWO_prepare_38, dWO_prepare_39, dWO_prepare_40, dWO_prepare_41, dWO_prepare_44, tg_44_34, tz_44_34, dWO_prepare_47, dWO_prepare_48, dWO_prepare_51, dWO_prepare_52, dWO_prepare_53, dWO_prepare_54, tg_54_7, tz_54_7, dWO_prepare_57, dWO_prepare_58, tg_58_13, tz_58_13, dWO_prepare_61, dWO_prepare_62, dWO_prepare_63, dWO_prepare_66, dWO_prepare_67, dWO_prepare_68, dWO_prepare_71, dWO_prepare_72, ic_1, dWO_prepare_75, tg_75_m36, tz_75_m36, dWO_prepare_78, dWO_prepare_79, dWO_prepare_80, dWO_prepare_81, dWO_prepare_83, dWO_prepare_85, dWO_prepare_86, dWO_prepare_89, tg_89_63, tz_89_63, dWO_prepare_92, dWO_prepare_93, dWO_prepare_96, dWO_prepare_98, dWO_prepare_99, dWO_prepare_100, dWO_prepare_101, dWO_prepare_103, dWO_prepare_105, dWO_prepare_106, dWO_prepare_109, tg_109_37, tz_109_37, dWO_prepare_112, dWO_prepare_113, dWO_prepare_116, dWO_prepare_118, dWO_prepare_119, dWO_prepare_121, tg_121_19, tz_121_19, dWO_prepare_124, dWO_prepare_125, dWO_prepare_128, dWO_prepare_129, dWO_prepare_130, dWO_prepare_133, dWO_prepare_135, dWO_prepare_136, dWO_prepare_137, dWO_prepare_140, dWO_prepare_143, tg_143_m40, tz_143_m40, dWO_prepare_146, dWO_prepare_149, tg_149_m66, tz_149_m66, dWO_prepare_152, dWO_prepare_153, dWO_prepare_156, dWO_prepare_157, dWO_prepare_160, dWO_prepare_161, dWO_prepare_162, k4, hz]
      exact h9
    | succ m ih =>
      intro k dv H hk hH hd
      have k0 : H du = _ := hH ▸ gh4_g0 d4
      have k1 : H q = _ := hH ▸ gh4_g1 d4
      have k2 : H t = _ := hH ▸ gh4_g2 d4
      have k3 : H o = _ := hH ▸ gh4_g3 d4
      have k4 : H cl = _ := hH ▸ gcl
      have k5 : H cc = _ := hH ▸ gcc
      have hz : ¬ nI n ≤ nI k := nI_ge (by omega) (by omega)
      have c2 : (nI k).toNatClampNeg = k := nI_clamp (by omega)
      have v2 : vp_in (nI k) 30 := vp_in_nI (by omega) (by omega)
      have h9 := ih (k + 1) (upd dv k (dueS N cs sk k)) (gup H du (.inl (cI, 30, .inl (upd dv k (dueS N cs sk k))))) (by omega) (by rw [hH, gh4_p0 d4]) (fun j hj => by
        by_cases hj2 : j = k
        · subst hj2
          exact if_pos rfl
        · exact (if_neg hj2).trans (hd j (by omega)))
      by_cases hs : nI k = sk
      · rw [show dueS N cs sk k = -1 from if_pos hs] at h9
        refine gw_ev (T := gT2w) 60 [39, 83, 103] gRt_m ⟨2, kgT2w, gr_ge (by first | decide | omega), ⟨Nat.le_refl _, Nat.le_refl _⟩⟩ ?_
        simp only [vc_i, vc_l, vc_r, vc_n, Nat.succ_ne_self, gSd_s, gEd_s, gEd_0, gEd_B, gB_t, gB_f, gGo_c, gGo_n, gAll_n, gAll_c, gwK_s, gCT, gCF, gSet, gSet2, gKill, gTw, gTs, gLs, List.map_cons, List.map_nil, fv0, fv1, fv2, fv3, List.getElem?_cons_zero, List.getElem?_cons_succ, List.set_cons_zero, List.set_cons_succ, List.not_mem_nil, List.mem_cons, Option.toList_some, Option.toList_none, List.cons_append, List.nil_append, if_false, if_true, true_and, and_true, forall_const, true_implies, false_implies, or_false, false_or, not_true_eq_false, not_false_eq_true, and_false, false_and, implies_true, Nat.reduceAdd, Nat.reduceEqDiff, Nat.reduceLT, ↓reduceIte, cls_WO_prepare, st_aload_n, st_ldc, st_putfield, st_iconst, st_istore_n, st_iload_n, st_getfield, st_if_icmp, st_goto, st_iaload, st_invokevirtual, st_iastore, st_iinc, st_istore, st_iload, st_return_, (show mWO_prepare.2.2.1 = 6 from rfl), ki_WO_79, fp_WO_prepare_41, fp_WO_prepare_57, fp_WO_prepare_63, fp_WO_prepare_48, fp_WO_prepare_60, fp_WO_prepare_66, fp_WO_prepare_80, gF_WO_84, gF_WO_24, gF_WO_89, tn_WO_92, gT2w_21, gp_WO_dueAt, ms_21, gCs_n, gCs_c, Nat.reduceLeDiff, gF_WO_34, gF_WO_27, gF_WO_21, dWO_prepare_0, dWO_prepare_1, dWO_prepare_3, dWO_prepare_6, dWO_prepare_7, dWO_prepare_9, dWO_prepare_12, dWO_prepare_13, ic_m1, dWO_prepare_14, dWO_prepare_17, dWO_prepare_18, ic_0, dWO_prepare_19, dWO_prepare_22, dWO_prepare_23, dWO_prepare_24, dWO_prepare_27, dWO_prepare_28, dWO_prepare_29, dWO_prepare_32, dWO_prepare_33, dWO_prepare_34, dWO_prepare_37, dWO_prepare_38, dWO_prepare_39, dWO_prepare_40, dWO_prepare_41, dWO_prepare_44, tg_44_34, tz_44_34, dWO_prepare_47, dWO_prepare_48, dWO_prepare_51, dWO_prepare_52, dWO_prepare_53, dWO_prepare_54, tg_54_7, tz_54_7, dWO_prepare_57, dWO_prepare_58, tg_58_13, tz_58_13, dWO_prepare_61, dWO_prepare_62, dWO_prepare_63, dWO_prepare_66, dWO_prepare_67, dWO_prepare_68, dWO_prepare_71, dWO_prepare_72, ic_1, dWO_prepare_75, tg_75_m36, tz_75_m36, dWO_prepare_78, dWO_prepare_79, dWO_prepare_80, dWO_prepare_81, dWO_prepare_83, dWO_prepare_85, dWO_prepare_86, dWO_prepare_89, tg_89_63, tz_89_63, dWO_prepare_92, dWO_prepare_93, dWO_prepare_96, dWO_prepare_98, dWO_prepare_99, dWO_prepare_100, dWO_prepare_101, dWO_prepare_103, dWO_prepare_105, dWO_prepare_106, dWO_prepare_109, tg_109_37, tz_109_37, dWO_prepare_112, dWO_prepare_113, dWO_prepare_116, dWO_prepare_118, dWO_prepare_119, dWO_prepare_121, tg_121_19, tz_121_19, dWO_prepare_124, dWO_prepare_125, dWO_prepare_128, dWO_prepare_129, dWO_prepare_130, dWO_prepare_133, dWO_prepare_135, dWO_prepare_136, dWO_prepare_137, dWO_prepare_140, dWO_prepare_143, tg_143_m40, tz_143_m40, dWO_prepare_146, dWO_prepare_149, tg_149_m66, tz_149_m66, dWO_prepare_152, dWO_prepare_153, dWO_prepare_156, dWO_prepare_157, dWO_prepare_160, dWO_prepare_161, dWO_prepare_162, k0, k1, k2, k3, k4, k5, f0, f1, f5, f6, f7, hz, c2, nI_1]
        exact ⟨fun z => absurd hs z, fun _ => ⟨⟨hcI, v2⟩, h9⟩⟩
      · rw [show dueS N cs sk k = dueF N (cs k) from if_neg hs] at h9
        refine gw_ev (T := gT2w) 60 [39, 83, 103] gRt_m ⟨2, kgT2w, gr_ge (by first | decide | omega), ⟨Nat.le_refl _, Nat.le_refl _⟩⟩ ?_
        simp only [vc_i, vc_l, vc_r, vc_n, Nat.succ_ne_self, gSd_s, gEd_s, gEd_0, gEd_B, gB_t, gB_f, gGo_c, gGo_n, gAll_n, gAll_c, gwK_s, gCT, gCF, gSet, gSet2, gKill, gTw, gTs, gLs, List.map_cons, List.map_nil, fv0, fv1, fv2, fv3, List.getElem?_cons_zero, List.getElem?_cons_succ, List.set_cons_zero, List.set_cons_succ, List.not_mem_nil, List.mem_cons, Option.toList_some, Option.toList_none, List.cons_append, List.nil_append, if_false, if_true, true_and, and_true, forall_const, true_implies, false_implies, or_false, false_or, not_true_eq_false, not_false_eq_true, and_false, false_and, implies_true, Nat.reduceAdd, Nat.reduceEqDiff, Nat.reduceLT, ↓reduceIte, cls_WO_prepare, st_aload_n, st_ldc, st_putfield, st_iconst, st_istore_n, st_iload_n, st_getfield, st_if_icmp, st_goto, st_iaload, st_invokevirtual, st_iastore, st_iinc, st_istore, st_iload, st_return_, (show mWO_prepare.2.2.1 = 6 from rfl), ki_WO_79, fp_WO_prepare_41, fp_WO_prepare_57, fp_WO_prepare_63, fp_WO_prepare_48, fp_WO_prepare_60, fp_WO_prepare_66, fp_WO_prepare_80, gF_WO_84, gF_WO_24, gF_WO_89, tn_WO_92, gT2w_21, gp_WO_dueAt, ms_21, gCs_n, gCs_c, Nat.reduceLeDiff, gF_WO_34, gF_WO_27, gF_WO_21, dWO_prepare_0, dWO_prepare_1, dWO_prepare_3, dWO_prepare_6, dWO_prepare_7, dWO_prepare_9, dWO_prepare_12, dWO_prepare_13, ic_m1, dWO_prepare_14, dWO_prepare_17, dWO_prepare_18, ic_0, dWO_prepare_19, dWO_prepare_22, dWO_prepare_23, dWO_prepare_24, dWO_prepare_27, dWO_prepare_28, dWO_prepare_29, dWO_prepare_32, dWO_prepare_33, dWO_prepare_34, dWO_prepare_37, dWO_prepare_38, dWO_prepare_39, dWO_prepare_40, dWO_prepare_41, dWO_prepare_44, tg_44_34, tz_44_34, dWO_prepare_47, dWO_prepare_48, dWO_prepare_51, dWO_prepare_52, dWO_prepare_53, dWO_prepare_54, tg_54_7, tz_54_7, dWO_prepare_57, dWO_prepare_58, tg_58_13, tz_58_13, dWO_prepare_61, dWO_prepare_62, dWO_prepare_63, dWO_prepare_66, dWO_prepare_67, dWO_prepare_68, dWO_prepare_71, dWO_prepare_72, ic_1, dWO_prepare_75, tg_75_m36, tz_75_m36, dWO_prepare_78, dWO_prepare_79, dWO_prepare_80, dWO_prepare_81, dWO_prepare_83, dWO_prepare_85, dWO_prepare_86, dWO_prepare_89, tg_89_63, tz_89_63, dWO_prepare_92, dWO_prepare_93, dWO_prepare_96, dWO_prepare_98, dWO_prepare_99, dWO_prepare_100, dWO_prepare_101, dWO_prepare_103, dWO_prepare_105, dWO_prepare_106, dWO_prepare_109, tg_109_37, tz_109_37, dWO_prepare_112, dWO_prepare_113, dWO_prepare_116, dWO_prepare_118, dWO_prepare_119, dWO_prepare_121, tg_121_19, tz_121_19, dWO_prepare_124, dWO_prepare_125, dWO_prepare_128, dWO_prepare_129, dWO_prepare_130, dWO_prepare_133, dWO_prepare_135, dWO_prepare_136, dWO_prepare_137, dWO_prepare_140, dWO_prepare_143, tg_143_m40, tz_143_m40, dWO_prepare_146, dWO_prepare_149, tg_149_m66, tz_149_m66, dWO_prepare_152, dWO_prepare_153, dWO_prepare_156, dWO_prepare_157, dWO_prepare_160, dWO_prepare_161, dWO_prepare_162, k0, k1, k2, k3, k4, k5, f0, f1, f5, f6, f7, hz, c2, nI_1]
        exact ⟨fun _ => ⟨⟨hcI, v2⟩, ⟨hcI, v2⟩, h9⟩, fun z => absurd z hs⟩
  refine gC_of (lv0 := [some (.ref o), some (.ref cl), some (.int sk), none, none, none]) (by decide +kernel) (Nat.le_of_ble_eq_true rfl) (fun q hq => hq) ⟨rfl, rfl⟩ ?_
  have h9 := loop1 n 0 dv0 _ (by omega) rfl (fun j hj => absurd hj (Nat.not_lt_zero _))
  rw [nI_0] at h9
  unfold gh4 at h9
  rw [hFS] at h9
  rw [gup_id hdu, gup_id hq, gup_id ht] at h9
  refine gw_ev (T := gT2w) 60 [39, 83, 103] gRt_m ⟨2, kgT2w, gr_ge (by first | decide | omega), ⟨Nat.le_refl _, Nat.le_refl _⟩⟩ ?_
  simp only [vc_i, vc_l, vc_r, vc_n, Nat.succ_ne_self, gSd_s, gEd_s, gEd_0, gEd_B, gB_t, gB_f, gGo_c, gGo_n, gAll_n, gAll_c, gwK_s, gCT, gCF, gSet, gSet2, gKill, gTw, gTs, gLs, List.map_cons, List.map_nil, fv0, fv1, fv2, fv3, List.getElem?_cons_zero, List.getElem?_cons_succ, List.set_cons_zero, List.set_cons_succ, List.not_mem_nil, List.mem_cons, Option.toList_some, Option.toList_none, List.cons_append, List.nil_append, if_false, if_true, true_and, and_true, forall_const, true_implies, false_implies, or_false, false_or, not_true_eq_false, not_false_eq_true, and_false, false_and, implies_true, Nat.reduceAdd, Nat.reduceEqDiff, Nat.reduceLT, ↓reduceIte, cls_WO_prepare, st_aload_n, st_ldc, st_putfield, st_iconst, st_istore_n, st_iload_n, st_getfield, st_if_icmp, st_goto, st_iaload, st_invokevirtual, st_iastore, st_iinc, st_istore, st_iload, st_return_, (show mWO_prepare.2.2.1 = 6 from rfl), ki_WO_79, fp_WO_prepare_41, fp_WO_prepare_57, fp_WO_prepare_63, fp_WO_prepare_48, fp_WO_prepare_60, fp_WO_prepare_66, fp_WO_prepare_80, gF_WO_84, gF_WO_24, gF_WO_89, tn_WO_92, gT2w_21, gp_WO_dueAt, ms_21, gCs_n, gCs_c, Nat.reduceLeDiff, gF_WO_34, gF_WO_27, gF_WO_21, dWO_prepare_0, dWO_prepare_1, dWO_prepare_3, dWO_prepare_6, dWO_prepare_7, dWO_prepare_9, dWO_prepare_12, dWO_prepare_13, ic_m1, dWO_prepare_14, dWO_prepare_17, dWO_prepare_18, ic_0, dWO_prepare_19, dWO_prepare_22, dWO_prepare_23, dWO_prepare_24, dWO_prepare_27, dWO_prepare_28, dWO_prepare_29, dWO_prepare_32, dWO_prepare_33, dWO_prepare_34, dWO_prepare_37, dWO_prepare_38, dWO_prepare_39, dWO_prepare_40, dWO_prepare_41, dWO_prepare_44, tg_44_34, tz_44_34, dWO_prepare_47, dWO_prepare_48, dWO_prepare_51, dWO_prepare_52, dWO_prepare_53, dWO_prepare_54, tg_54_7, tz_54_7, dWO_prepare_57, dWO_prepare_58, tg_58_13, tz_58_13, dWO_prepare_61, dWO_prepare_62, dWO_prepare_63, dWO_prepare_66, dWO_prepare_67, dWO_prepare_68, dWO_prepare_71, dWO_prepare_72, ic_1, dWO_prepare_75, tg_75_m36, tz_75_m36, dWO_prepare_78, dWO_prepare_79, dWO_prepare_80, dWO_prepare_81, dWO_prepare_83, dWO_prepare_85, dWO_prepare_86, dWO_prepare_89, tg_89_63, tz_89_63, dWO_prepare_92, dWO_prepare_93, dWO_prepare_96, dWO_prepare_98, dWO_prepare_99, dWO_prepare_100, dWO_prepare_101, dWO_prepare_103, dWO_prepare_105, dWO_prepare_106, dWO_prepare_109, tg_109_37, tz_109_37, dWO_prepare_112, dWO_prepare_113, dWO_prepare_116, dWO_prepare_118, dWO_prepare_119, dWO_prepare_121, tg_121_19, tz_121_19, dWO_prepare_124, dWO_prepare_125, dWO_prepare_128, dWO_prepare_129, dWO_prepare_130, dWO_prepare_133, dWO_prepare_135, dWO_prepare_136, dWO_prepare_137, dWO_prepare_140, dWO_prepare_143, tg_143_m40, tz_143_m40, dWO_prepare_146, dWO_prepare_149, tg_149_m66, tz_149_m66, dWO_prepare_152, dWO_prepare_153, dWO_prepare_156, dWO_prepare_157, dWO_prepare_160, dWO_prepare_161, dWO_prepare_162, ho, gup_s, gup_up, fWO, List.length_cons, List.length_nil]
  repeat' first | exact h9 | exact fit_i _ | exact fit_0 | (refine ⟨?_, ?_⟩)
