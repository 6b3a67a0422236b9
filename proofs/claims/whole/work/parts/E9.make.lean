-- the reference's make
def mrF (fs F : List Value) (kn stp cnt v n : Nat) : Prop := F.length = 33 ∧ (∀ i, i ≠ 1 → i ≠ 6 → i ≠ 7 → i ≠ 11 → i ≠ 24 → i ≠ 26 → F[i]? = fs[i]?) ∧ F[1]? = some (.int 0) ∧ F[6]? = some (.int (nI n)) ∧ F[7]? = some (.int (nI kn)) ∧ F[11]? = some (.int (nI stp)) ∧ F[24]? = some (.int (nI cnt)) ∧ F[26]? = some (.long (lN v))
def mrI (cI : ClassId) (V : Nat → Nat) (fs : List Value) (h0 : gH) (s : OS) (kp : Nat → Int32) (kn : Nat) (w : WK) (h : gH) : Prop := (∃ F, h (V 0) = some (.inr (6, F)) ∧ mrF fs F kn w.2.2 s.2.2.2.1 s.2.2.2.2.1 s.2.2.2.2.2) ∧ h (V 1) = some (.inl (cI, 15, .inl s.1)) ∧ h (V 2) = some (.inl (cI, 6000, .inl s.2.1)) ∧ h (V 3) = some (.inl (cI, 186, .inl s.2.2.1)) ∧ h (V 4) = some (.inl (cI, 186, .inl kp)) ∧ h (V 5) = some (.inl (cI, 15, .inl w.1)) ∧ h (V 6) = some (.inl (cI, 400, .inl w.2.1)) ∧ ∀ q, (∀ i, i < 7 → q ≠ V i) → h q = h0 q
section MR
variable {cI : ClassId} {V : Nat → Nat} {fs F F2 : List Value} {h0 h h' : gH} {kn stp cnt v n cnt2 v2 n2 : Nat}
theorem mrF_on (h : mrF fs F kn stp cnt v n) : fOK F F cnt v n := ⟨h.1, fun _ _ _ _ => rfl, h.2.2.2.1, h.2.2.2.2.2.2.1, h.2.2.2.2.2.2.2⟩
theorem on_mrF (h : mrF fs F kn stp cnt v n) (g : fOK F F2 cnt2 v2 n2) : mrF fs F2 kn stp cnt2 v2 n2 := ⟨g.1, fun i a1 a6 a7 a11 a24 a26 => (g.2.1 i a6 a24 a26).trans (h.2.1 i a1 a6 a7 a11 a24 a26), (g.2.1 1 (by decide) (by decide) (by decide)).trans h.2.2.1, g.2.2.1, (g.2.1 7 (by decide) (by decide) (by decide)).trans h.2.2.2.2.1, (g.2.1 11 (by decide) (by decide) (by decide)).trans h.2.2.2.2.2.1, g.2.2.2.1, g.2.2.2.2⟩
theorem mrF_s {w : Nat} (h : mrF fs F kn stp cnt v n) : mrF fs (F.set 11 (.int (nI w))) kn w cnt v n := by
  obtain ⟨h1, h2, h3, h4, h5, h6, h7, h8⟩ := h
  refine ⟨by rw [List.length_set]; exact h1, fun i a b c d e f => ?_, ?_, ?_, ?_, ?_, ?_, ?_⟩
  · rw [List.getElem?_set_ne (fun z => d z.symm)]; exact h2 i a b c d e f
  · rw [List.getElem?_set_ne (by decide)]; exact h3
  · rw [List.getElem?_set_ne (by decide)]; exact h4
  · rw [List.getElem?_set_ne (by decide)]; exact h5
  · exact List.getElem?_set_self (by omega)
  · rw [List.getElem?_set_ne (by decide)]; exact h7
  · rw [List.getElem?_set_ne (by decide)]; exact h8
theorem mrI_o {s s2 : OS} {kp : Nat → Int32} {w : WK} {k2 : Nat} (hV : apU V 7) (hI : mrI cI V fs h0 s kp kn w h) (e1 : s2.1 = s.1) (e2 : s2.2.1 = s.2.1) (e3 : s2.2.2.1 = s.2.2.1) (hF : mrF fs F k2 w.2.2 s2.2.2.2.1 s2.2.2.2.2.1 s2.2.2.2.2.2) : mrI cI V fs h0 s2 kp k2 w (gup h (V 0) (.inr (6, F))) := by
  obtain ⟨_, i1, i2, i3, i4, i5, i6, i7⟩ := hI
  have ne : ∀ {i : Nat}, i < 7 → i ≠ 0 → V i ≠ V 0 := fun hi n => apU_ne hV hi (by omega) n
  refine ⟨⟨F, gup_s _ _ _, hF⟩, ?_, ?_, ?_, ?_, ?_, ?_, fun q n => ?_⟩
  · rw [gup_n _ _ (ne (by omega) (by omega)), e1]; exact i1
  · rw [gup_n _ _ (ne (by omega) (by omega)), e2]; exact i2
  · rw [gup_n _ _ (ne (by omega) (by omega)), e3]; exact i3
  · rw [gup_n _ _ (ne (by omega) (by omega))]; exact i4
  · rw [gup_n _ _ (ne (by omega) (by omega))]; exact i5
  · rw [gup_n _ _ (ne (by omega) (by omega))]; exact i6
  · rw [gup_n _ _ (n 0 (by omega))]; exact i7 q n
theorem mrI_k {s : OS} {kp kp2 : Nat → Int32} {w : WK} (hV : apU V 7) (hI : mrI cI V fs h0 s kp kn w h) : mrI cI V fs h0 s kp2 kn w (gup h (V 4) (.inl (cI, 186, .inl kp2))) := by
  obtain ⟨⟨F, k0, hF⟩, i1, i2, i3, i4, i5, i6, i7⟩ := hI
  have ne : ∀ {i : Nat}, i < 7 → i ≠ 4 → V i ≠ V 4 := fun hi n => apU_ne hV hi (by omega) n
  refine ⟨⟨F, ?_, hF⟩, ?_, ?_, ?_, gup_s _ _ _, ?_, ?_, fun q n => ?_⟩
  · rw [gup_n _ _ (ne (by omega) (by omega))]; exact k0
  · rw [gup_n _ _ (ne (by omega) (by omega))]; exact i1
  · rw [gup_n _ _ (ne (by omega) (by omega))]; exact i2
  · rw [gup_n _ _ (ne (by omega) (by omega))]; exact i3
  · rw [gup_n _ _ (ne (by omega) (by omega))]; exact i5
  · rw [gup_n _ _ (ne (by omega) (by omega))]; exact i6
  · rw [gup_n _ _ (n 4 (by omega))]; exact i7 q n
theorem mrI_c {s s2 : OS} {kp : Nat → Int32} {w : WK} {cl : Nat → Int32} (hV : apU V 7) (hI : mrI cI V fs h0 s kp kn w h) (e1 : s2.1 = s.1) (e2 : s2.2.1 = s.2.1) (e3 : s2.2.2.1 = cl) (e4 : s2.2.2.2 = s.2.2.2) : mrI cI V fs h0 s2 kp kn w (gup h (V 3) (.inl (cI, 186, .inl cl))) := by
  obtain ⟨⟨F, k0, hF⟩, i1, i2, i3, i4, i5, i6, i7⟩ := hI
  have ne : ∀ {i : Nat}, i < 7 → i ≠ 3 → V i ≠ V 3 := fun hi n => apU_ne hV hi (by omega) n
  refine ⟨⟨F, ?_, by rw [e4]; exact hF⟩, ?_, ?_, ?_, ?_, ?_, ?_, fun q n => ?_⟩
  · rw [gup_n _ _ (ne (by omega) (by omega))]; exact k0
  · rw [gup_n _ _ (ne (by omega) (by omega)), e1]; exact i1
  · rw [gup_n _ _ (ne (by omega) (by omega)), e2]; exact i2
  · rw [gup_s, e3]
  · rw [gup_n _ _ (ne (by omega) (by omega))]; exact i4
  · rw [gup_n _ _ (ne (by omega) (by omega))]; exact i5
  · rw [gup_n _ _ (ne (by omega) (by omega))]; exact i6
  · rw [gup_n _ _ (n 3 (by omega))]; exact i7 q n
end MR
/-- how make ends -/
def mkQ (cI : ClassId) (V : Nat → Nat) (fs : List Value) (h0 : gH) (N K D : Nat) (od cl : Nat → Int32) (n : Nat) (T : Nat × Nat) (r : Option Value) (h' : gH) : Prop := r = some (.int (nI T.1)) ∧ ∃ (s : OS) (kp : Nat → Int32) (w : WK), mrI cI V fs h0 s kp n w h' ∧ (¬ T.1 = 0 → s.2.2.2.2.2 = (ocN N K T.2).2.1 ∧ ∃ Q, bothQ N K D s.2.2.2.2.2 Q (ocN N K T.2).2.2 s.2.2.1 od) ∧ (T.1 = 0 → s.2.2.2.2.2 = n ∧ ∀ j, j < 180 → s.2.2.1 j = cl j)
set_option maxRecDepth 100000 in
set_option maxHeartbeats 8000000 in
theorem mk_back (l : Launch) (g : gG) (cI : ClassId) (hcI : (cI, FieldType.int) ∈ g.2.1) (V : Nat → Nat) (hV : apU V 7) (fs : List Value) (f8 : fs[8]? = some (.ref (V 3))) (f9 : fs[9]? = some (.ref (V 4))) (h00 h0 : gH) (N K D n : Nat) (od cl : Nat → Int32) (T : Nat × Nat) (hT : T.1 = 0) (a rt : Int32) (s0 : OS) (kp : Nat → Int32) (hkp : ∀ j, j < 180 → kp j = cl j) (w : WK) (h : gH) (hI0 : mrI cI V fs h0 s0 kp n w h) : gw l g mRF_make (gr 8) h00 (gZm g h00 0 0 (mkQ cI V fs h0 N K D od cl n T)) 0 0 115 [some (.ref (V 0)), some (.int a), some (.int rt), none] [] h := by
  have loop : ∀ (m k : Nat) (cl2 : Nat → Int32) (h : gH), k + m = 180 → mrI cI V fs h0 (s0.1, s0.2.1, cl2, s0.2.2.2.1, s0.2.2.2.2.1, n) kp n w h → (∀ j, j < k → cl2 j = kp j) → gw l g mRF_make (gr 8) h00 (gZm g h00 0 0 (mkQ cI V fs h0 N K D od cl n T)) 0 0 125 [some (.ref (V 0)), some (.int a), some (.int rt), some (.int (nI k))] [] h := by
    intro m
    induction m with
    | zero =>
      intro k cl2 h hk hI hc
      have hz : (180 : Int32) ≤ nI k := nI_le (a := 180) (by omega) (by omega)
      refine gw_ev (T := gT0) 60 [125] gRt_m (gTO_0 _ _ _ ⟨Nat.le_refl _, Nat.le_refl _⟩) ?_
      simp only [vc_i, vc_l, vc_r, vc_n, Nat.succ_ne_self, gSd_s, gEd_s, gEd_0, gEd_B, gB_t, gB_f, gGo_c, gGo_n, gAll_n, gAll_c, gwK_s, gCT, gCF, gSet, gSet2, gKill, gTw, gTs, gLs, List.map_cons, List.map_nil, fv0, fv1, fv2, fv3, List.getElem?_cons_zero, List.getElem?_cons_succ, List.set_cons_zero, List.set_cons_succ, List.not_mem_nil, List.mem_cons, Option.toList_some, Option.toList_none, List.cons_append, List.nil_append, if_false, if_true, true_and, and_true, forall_const, true_implies, false_implies, or_false, false_or, not_true_eq_false, not_false_eq_true, and_false, false_and, implies_true, Nat.reduceAdd, Nat.reduceEqDiff, Nat.reduceLT, ↓reduceIte, cls_RF_make, st_aload_n, st_iload_n, st_iconst, st_if_icmp, st_ldc, st_goto, st_putfield, st_getfield, st_ifCond, st_ireturn, st_istore_n, st_sipush, st_iaload, st_iastore, st_iinc, st_i2l, st_invokevirtual, (show mRF_make.2.2.1 = 4 from rfl), ki_RF_233, fp_RF_make_94, gF_RF_94, gF_RF_101, fp_RF_make_234, gF_RF_50, gF_RF_47, fp_RF_make_207, tn_RF_237, (show gT0 145 = none from rfl), tn_RF_147, (show gT0 124 = none from rfl), tn_RF_202, (show gT0 143 = none from rfl), gF_RF_234, fp_RF_make_101, dRF_make_0, dRF_make_1, dRF_make_2, ic_1, dRF_make_3, tg_3_19, tz_3_19, dRF_make_6, dRF_make_7, dRF_make_9, tg_9_13, tz_9_13, dRF_make_12, dRF_make_13, dRF_make_14, tg_14_8, tz_14_8, dRF_make_17, dRF_make_18, ic_5, dRF_make_19, tg_19_7, tz_19_7, dRF_make_22, dRF_make_23, tg_23_4, tz_23_4, dRF_make_26, ic_0, dRF_make_27, dRF_make_30, dRF_make_31, dRF_make_34, tg_34_5, tz_34_5, dRF_make_37, dRF_make_38, dRF_make_39, dRF_make_40, dRF_make_41, dRF_make_44, dRF_make_47, dRF_make_48, dRF_make_49, dRF_make_50, si_180, dRF_make_53, tg_53_21, tz_53_21, dRF_make_56, dRF_make_57, dRF_make_60, dRF_make_61, dRF_make_62, dRF_make_65, dRF_make_66, dRF_make_67, dRF_make_68, dRF_make_71, tg_71_m22, tz_71_m22, dRF_make_74, dRF_make_75, dRF_make_76, dRF_make_77, dRF_make_80, dRF_make_81, dRF_make_82, dRF_make_83, dRF_make_84, tg_84_31, tz_84_31, dRF_make_87, dRF_make_88, dRF_make_91, dRF_make_92, ic_m1, dRF_make_93, dRF_make_96, tg_96_13, tz_96_13, dRF_make_99, dRF_make_100, dRF_make_103, dRF_make_104, tg_104_5, tz_104_5, dRF_make_107, dRF_make_108, dRF_make_109, dRF_make_112, tg_112_m30, tz_112_m30, dRF_make_115, dRF_make_116, dRF_make_117, dRF_make_120, dRF_make_123, dRF_make_124, dRF_make_125, dRF_make_126, dRF_make_129, tg_129_21, tz_129_21, dRF_make_132, dRF_make_133, dRF_make_136, dRF_make_137, dRF_make_138, dRF_make_141, dRF_make_142, dRF_make_143, dRF_make_144, dRF_make_147, tg_147_m22, tz_147_m22, dRF_make_150, dRF_make_151, hz]
      refine ⟨rfl, by rw [hT]; rfl, _, kp, w, hI, fun z => absurd hT z, fun _ => ⟨rfl, fun j hj => ?_⟩⟩
      exact (hc j (by omega)).trans (hkp j hj)
    | succ m ih =>
      intro k cl2 h hk hI hc
      obtain ⟨⟨F, k0, hF⟩, i1, i2, i3, i4, hr⟩ := id hI
      have F8 : F[8]? = some (.ref (V 3)) := (hF.2.1 8 (by decide) (by decide) (by decide) (by decide) (by decide) (by decide)).trans f8
      have F9 : F[9]? = some (.ref (V 4)) := (hF.2.1 9 (by decide) (by decide) (by decide) (by decide) (by decide) (by decide)).trans f9
      have hz : ¬ (180 : Int32) ≤ nI k := nI_ge (b := 180) (by omega) (by omega)
      have c1 : (nI k).toNatClampNeg = k := nI_clamp (by omega)
      have v1 : vp_in (nI k) 186 := vp_in_nI (by omega) (by omega)
      dsimp only at i3
      refine gw_ev (T := gT0) 60 [125] gRt_m (gTO_0 _ _ _ ⟨Nat.le_refl _, Nat.le_refl _⟩) ?_
      simp only [vc_i, vc_l, vc_r, vc_n, Nat.succ_ne_self, gSd_s, gEd_s, gEd_0, gEd_B, gB_t, gB_f, gGo_c, gGo_n, gAll_n, gAll_c, gwK_s, gCT, gCF, gSet, gSet2, gKill, gTw, gTs, gLs, List.map_cons, List.map_nil, fv0, fv1, fv2, fv3, List.getElem?_cons_zero, List.getElem?_cons_succ, List.set_cons_zero, List.set_cons_succ, List.not_mem_nil, List.mem_cons, Option.toList_some, Option.toList_none, List.cons_append, List.nil_append, if_false, if_true, true_and, and_true, forall_const, true_implies, false_implies, or_false, false_or, not_true_eq_false, not_false_eq_true, and_false, false_and, implies_true, Nat.reduceAdd, Nat.reduceEqDiff, Nat.reduceLT, ↓reduceIte, cls_RF_make, st_aload_n, st_iload_n, st_iconst, st_if_icmp, st_ldc, st_goto, st_putfield, st_getfield, st_ifCond, st_ireturn, st_istore_n, st_sipush, st_iaload, st_iastore, st_iinc, st_i2l, st_invokevirtual, (show mRF_make.2.2.1 = 4 from rfl), ki_RF_233, fp_RF_make_94, gF_RF_94, gF_RF_101, fp_RF_make_234, gF_RF_50, gF_RF_47, fp_RF_make_207, tn_RF_237, (show gT0 145 = none from rfl), tn_RF_147, (show gT0 124 = none from rfl), tn_RF_202, (show gT0 143 = none from rfl), gF_RF_234, fp_RF_make_101, dRF_make_0, dRF_make_1, dRF_make_2, ic_1, dRF_make_3, tg_3_19, tz_3_19, dRF_make_6, dRF_make_7, dRF_make_9, tg_9_13, tz_9_13, dRF_make_12, dRF_make_13, dRF_make_14, tg_14_8, tz_14_8, dRF_make_17, dRF_make_18, ic_5, dRF_make_19, tg_19_7, tz_19_7, dRF_make_22, dRF_make_23, tg_23_4, tz_23_4, dRF_make_26, ic_0, dRF_make_27, dRF_make_30, dRF_make_31, dRF_make_34, tg_34_5, tz_34_5, dRF_make_37, dRF_make_38, dRF_make_39, dRF_make_40, dRF_make_41, dRF_make_44, dRF_make_47, dRF_make_48, dRF_make_49, dRF_make_50, si_180, dRF_make_53, tg_53_21, tz_53_21, dRF_make_56, dRF_make_57, dRF_make_60, dRF_make_61, dRF_make_62, dRF_make_65, dRF_make_66, dRF_make_67, dRF_make_68, dRF_make_71, tg_71_m22, tz_71_m22, dRF_make_74, dRF_make_75, dRF_make_76, dRF_make_77, dRF_make_80, dRF_make_81, dRF_make_82, dRF_make_83, dRF_make_84, tg_84_31, tz_84_31, dRF_make_87, dRF_make_88, dRF_make_91, dRF_make_92, ic_m1, dRF_make_93, dRF_make_96, tg_96_13, tz_96_13, dRF_make_99, dRF_make_100, dRF_make_103, dRF_make_104, tg_104_5, tz_104_5, dRF_make_107, dRF_make_108, dRF_make_109, dRF_make_112, tg_112_m30, tz_112_m30, dRF_make_115, dRF_make_116, dRF_make_117, dRF_make_120, dRF_make_123, dRF_make_124, dRF_make_125, dRF_make_126, dRF_make_129, tg_129_21, tz_129_21, dRF_make_132, dRF_make_133, dRF_make_136, dRF_make_137, dRF_make_138, dRF_make_141, dRF_make_142, dRF_make_143, dRF_make_144, dRF_make_147, tg_147_m22, tz_147_m22, dRF_make_150, dRF_make_151, k0, i3, i4, F8, F9, hz, c1, nI_1]
      refine ⟨⟨hcI, v1⟩, ⟨hcI, v1⟩, ih (k + 1) (upd cl2 k (kp k)) _ (by omega) (mrI_c hV hI rfl rfl rfl rfl) (fun j hj => ?_)⟩
      by_cases e : j = k
      · rw [e, pk_us]
      · rw [pk_un e]
        exact hc j (by omega)
  obtain ⟨⟨F, k0, hF⟩, i1, i2, i3, i4, hr⟩ := id hI0
  have F7 : F[7]? = some (.int (nI n)) := hF.2.2.2.2.1
  have hlen : F.length = 33 := hF.1
  refine gw_ev (T := gT0) 60 [125] gRt_m (gTO_0 _ _ _ ⟨Nat.le_refl _, Nat.le_refl _⟩) ?_
  simp only [vc_i, vc_l, vc_r, vc_n, Nat.succ_ne_self, gSd_s, gEd_s, gEd_0, gEd_B, gB_t, gB_f, gGo_c, gGo_n, gAll_n, gAll_c, gwK_s, gCT, gCF, gSet, gSet2, gKill, gTw, gTs, gLs, List.map_cons, List.map_nil, fv0, fv1, fv2, fv3, List.getElem?_cons_zero, List.getElem?_cons_succ, List.set_cons_zero, List.set_cons_succ, List.not_mem_nil, List.mem_cons, Option.toList_some, Option.toList_none, List.cons_append, List.nil_append, if_false, if_true, true_and, and_true, forall_const, true_implies, false_implies, or_false, false_or, not_true_eq_false, not_false_eq_true, and_false, false_and, implies_true, Nat.reduceAdd, Nat.reduceEqDiff, Nat.reduceLT, ↓reduceIte, cls_RF_make, st_aload_n, st_iload_n, st_iconst, st_if_icmp, st_ldc, st_goto, st_putfield, st_getfield, st_ifCond, st_ireturn, st_istore_n, st_sipush, st_iaload, st_iastore, st_iinc, st_i2l, st_invokevirtual, (show mRF_make.2.2.1 = 4 from rfl), ki_RF_233, fp_RF_make_94, gF_RF_94, gF_RF_101, fp_RF_make_234, gF_RF_50, gF_RF_47, fp_RF_make_207, tn_RF_237, (show gT0 145 = none from rfl), tn_RF_147, (show gT0 124 = none from rfl), tn_RF_202, (show gT0 143 = none from rfl), gF_RF_234, fp_RF_make_101, dRF_make_0, dRF_make_1, dRF_make_2, ic_1, dRF_make_3, tg_3_19, tz_3_19, dRF_make_6, dRF_make_7, dRF_make_9, tg_9_13, tz_9_13, dRF_make_12, dRF_make_13, dRF_make_14, tg_14_8, tz_14_8, dRF_make_17, dRF_make_18, ic_5, dRF_make_19, tg_19_7, tz_19_7, dRF_make_22, dRF_make_23, tg_23_4, tz_23_4, dRF_make_26, ic_0, dRF_make_27, dRF_make_30, dRF_make_31, dRF_make_34, tg_34_5, tz_34_5, dRF_make_37, dRF_make_38, dRF_make_39, dRF_make_40, dRF_make_41, dRF_make_44, dRF_make_47, dRF_make_48, dRF_make_49, dRF_make_50, si_180, dRF_make_53, tg_53_21, tz_53_21, dRF_make_56, dRF_make_57, dRF_make_60, dRF_make_61, dRF_make_62, dRF_make_65, dRF_make_66, dRF_make_67, dRF_make_68, dRF_make_71, tg_71_m22, tz_71_m22, dRF_make_74, dRF_make_75, dRF_make_76, dRF_make_77, dRF_make_80, dRF_make_81, dRF_make_82, dRF_make_83, dRF_make_84, tg_84_31, tz_84_31, dRF_make_87, dRF_make_88, dRF_make_91, dRF_make_92, ic_m1, dRF_make_93, dRF_make_96, tg_96_13, tz_96_13, dRF_make_99, dRF_make_100, dRF_make_103, dRF_make_104, tg_104_5, tz_104_5, dRF_make_107, dRF_make_108, dRF_make_109, dRF_make_112, tg_112_m30, tz_112_m30, dRF_make_115, dRF_make_116, dRF_make_117, dRF_make_120, dRF_make_123, dRF_make_124, dRF_make_125, dRF_make_126, dRF_make_129, tg_129_21, tz_129_21, dRF_make_132, dRF_make_133, dRF_make_136, dRF_make_137, dRF_make_138, dRF_make_141, dRF_make_142, dRF_make_143, dRF_make_144, dRF_make_147, tg_147_m22, tz_147_m22, dRF_make_150, dRF_make_151, k0, F7, hlen]
  refine ⟨fit_i _, loop 180 0 s0.2.2.1 _ (by omega) (mrI_o hV hI0 rfl rfl rfl ?_) (fun j hj => by omega)⟩
  exact on_mrF hF (fOK_n (mrF_on hF))
