-- the copy of an array; takeAll; make
set_option maxRecDepth 20000 in
theorem wl_CL_23 : Cond.methodLink "RiddleMill$ClueList" 23 arraycopyName ∈ gWS := gin 723 rfl rfl
set_option maxRecDepth 20000 in
theorem wt_copy : Cond.static arraycopyName ∈ gWS := gin 724 rfl rfl
set_option maxRecDepth 20000 in
theorem wv_copy : Cond.native arraycopyName ∈ gWS := gin 725 rfl rfl
set_option maxRecDepth 20000 in
theorem wn_SYS : Cond.initialized "java/lang/System" ∈ gWS := gin 17 rfl rfl
section GCP
variable {l : Launch} {g : gG} {I : gI} {R : Room} {h0 h : gH} {Z : gZ} {k n pc idx : Nat} {lv : gV} {r : List Value}
/-- the first z cells of one array of ints into another -/
theorem gw_copy {src dst : Nat} {cI : ClassId} {n0 n1 z : Nat} {f f2 : Nat → Int32} (hd : decode I.2.1 pc = .ok (.invokestatic idx, 3)) (hlk : Cond.methodLink I.1.cls idx arraycopyName ∈ gWS) (hcI : (cI, FieldType.int) ∈ g.2.1) (e0 : h src = some (.inl (cI, n0, .inl f))) (e1 : h dst = some (.inl (cI, n1, .inl f2))) (hz : z < 2 ^ 31) (h4 : z ≤ n0) (h5 : z ≤ n1) (hR : 1 ≤ R.frames ∧ (r.map fun v => v.category).sum + 18 ≤ R.locals)
    (K : gw l g I R h0 Z k n (pc + 3) lv r (gup h dst (.inl (cI, n1, .inl (va_cpy f f2 0 0 z))))) : gw l g I R h0 Z k n pc lv (.int (nI z) :: .int 0 :: .ref dst :: .int 0 :: .ref src :: r) h := by
  intro p e s m args below meth c C H locs hP hD hS ls hl T hT X
  obtain ⟨hx, hb, hml, hown, hts, hK, hlocks, hr, hnm, hNw, hSt, hP0⟩ := id C
  obtain ⟨t0, ht0⟩ := List.getElem?_of_mem hcI
  have hc0 : H[src]? = some (vp_cell cI (n0, .inl f)) := hP src _ e0
  have hc1 : H[dst]? = some (vp_cell cI (n1, .inl f2)) := hP dst _ e1
  obtain ⟨-, k0, hk0, cm0, hkk0⟩ := (hK.2 t0 _ ht0).1 n0 (fun j => .int (f j))
  obtain ⟨-, k1, hk1, cm1, hkk1⟩ := (hK.2 t0 _ ht0).1 n1 (fun j => .int (f2 j))
  have ez : (nI z).toNatClampNeg = z := nI_clamp hz
  have ei : (nI z).toInt = (z : Int) := by
    have h9 : ((nI z).toInt.toNat : Nat) = z := ez
    have h8 : (0 : Int) ≤ (nI z).toInt := by simpa using Int32.le_iff_toInt_le.mp (Int32.not_lt.mp (nI_pos hz))
    omega
  have e00 : (0 : Int32).toInt = 0 := by decide
  have z0 : (0 : Int32).toNatClampNeg = 0 := by decide
  obtain ⟨vm', X', stp⟩ := X.arraycopy hx hown (hts _ hlk) (hts _ wv_copy) (hts _ wt_copy) (hts _ wn_SYS) (src := src) (dst := dst) (srcPos := 0) (destPos := 0) (n := nI z) (cs := vp_cell cI (n0, .inl f)) (cd := vp_cell cI (n1, .inl f2)) (by rw [hT]; exact hc0) (by rw [hT]; exact hc1)
    (fun _ q => by cases q) (fun _ q => by cases q) (fun q => by cases q) (fun q => by cases q) hk0 hk1 hkk0 hkk1 rfl (by decide) (by decide) (nI_pos hz)
    (by rw [ei, e00]; show ¬ _ > ((arrV cI n0 (fun j => .int (f j))).slots.size : Int); rw [arrV_size]; omega)
    (by rw [ei, e00]; show ¬ _ > ((arrV cI n1 (fun j => .int (f2 j))).slots.size : Int); rw [arrV_size]; omega)
    (fun vm₁ _ i hi => by
      rw [ez] at hi
      have e : (vp_cell cI (n0, .inl f)).slots.getD ((0 : Int32).toNatClampNeg + i) .null = .int (f ((0 : Int32).toNatClampNeg + i)) := by
        show (arrV cI n0 (fun j => .int (f j))).slots.getD _ _ = _
        rw [Array.getD_eq_getD_getElem?, arrV_read _ _ (by omega)]
        rfl
      rw [e]
      exact ⟨rfl, trivial⟩)
    (g := F0 m pc ls (.int (nI z) :: .int 0 :: .ref dst :: .int 0 :: .ref src :: r)) rfl (by rw [hml]; exact hl.1) (rest := r) rfl (by rw [hb]; exact hd) hR.1 (by
      show 2 * 0 + _ + (7 + 11) ≤ _
      omega)
  have e2 : copied (vp_cell cI (n0, .inl f)) (vp_cell cI (n1, .inl f2)) 0 0 (nI z) = vp_cell cI (n1, .inl (va_cpy f f2 0 0 z)) := by
    show (arrV cI n1 (fun j => .int (f2 j))).storeRun (0 : Int32).toNatClampNeg ((arrV cI n0 (fun j => .int (f j))).stretch (0 : Int32).toNatClampNeg (nI z).toNatClampNeg) = _
    rw [ez, z0]
    exact va_copied (fun z => Value.int z) cI cI (n1 := n1) (dp := 0) f f2 (show 0 + z ≤ n0 by omega)
  rw [e2] at X' stp
  have hlt : dst < H.size := (Array.getElem?_eq_some_iff.mp hc1).1
  obtain ⟨H1, hH1⟩ : ∃ H1 : Heap, H1 = H.setIfInBounds dst (vp_cell cI (n1, .inl (va_cpy f f2 0 0 z))) := ⟨_, rfl⟩
  have hheap : ((T.setVm vm').setCell dst (vp_cell cI (n1, .inl (va_cpy f f2 0 0 z)))).heap = H1 := by rw [hH1, ← hT]; rfl
  have oq : ∀ q : Nat, q ≠ dst → H1[q]? = H[q]? := fun q hq => by rw [hH1]; simp [Array.getElem?_setIfInBounds, Ne.symm hq]
  have od : H1[dst]? = some (vp_cell cI (n1, .inl (va_cpy f f2 0 0 z))) := by rw [hH1]; simp [Array.getElem?_setIfInBounds, hlt]
  have hzs : H1.size = H.size := by rw [hH1]; simp
  obtain ⟨t, a1, b1⟩ := K p e s m args below meth c C H1 _ (hP.up od oq) (hD.up (hD dst _ e1)) ⟨by rw [hzs]; exact hS.1, fun q g1 g2 => by
      rw [oq q (fun e => g2 (by rw [e]; exact hD dst _ e1))]
      exact hS.2.1 q g1 g2, fun q hq => by
      rcases List.mem_append.mp hq with h | h
      · exact hS.2.2 q h
      · obtain ⟨w, -, hw⟩ := List.mem_map.mp h
        rw [← hw]
        exact hD dst _ e1⟩ ls hl _ hheap X'
  exact ⟨t, stp t a1, b1⟩
end GCP
set_option maxRecDepth 100000 in
set_option maxHeartbeats 4000000 in
theorem c_CL_takeAll (l : Launch) (g : gG) (cI : ClassId) (hcI : (cI, FieldType.int) ∈ g.2.1) (o c n o2 c2 n2 : Nat) (hn2 : n2 ≤ 30) (f f2 : Nat → Int32) (h : gH) (ho : h o = some (.inr (0, [.ref c, .int (nI n)]))) (hc : h c = some (.inl (cI, 30, .inl f))) (ho2 : h o2 = some (.inr (0, [.ref c2, .int (nI n2)]))) (hc2 : h c2 = some (.inl (cI, 30, .inl f2))) (x1 : o ≠ c) (x2 : o2 ≠ c) : gC l g mCL_takeAll (gr 1) [.ref o, .ref o2] h (fun r h' => r = none ∧ h' = gup (gup h c (.inl (cI, 30, .inl (va_cpy f2 f 0 0 n2)))) o (.inr (0, [.ref c, .int (nI n2)]))) := by
  refine gC_of (lv0 := [some (.ref o), some (.ref o2)]) (by decide +kernel) (Nat.le_of_ble_eq_true rfl) (fun q hq => hq) ⟨rfl, rfl⟩ ?_
  refine gw_ev (T := gT0) 60 [] gRt_m (gTO_0 _ _ _ ⟨Nat.le_refl _, Nat.le_refl _⟩) ?_
  simp only [vc_i, vc_l, vc_r, vc_n, Nat.succ_ne_self, gSd_s, gEd_s, gEd_0, gEd_B, gB_t, gB_f, gGo_c, gGo_n, gAll_n, gAll_c, gwK_s, gCT, gCF, gSet, gSet2, gKill, gTw, gTs, gLs, List.map_cons, List.map_nil, fv0, fv1, fv2, fv3, List.getElem?_cons_zero, List.getElem?_cons_succ, List.set_cons_zero, List.set_cons_succ, List.not_mem_nil, List.mem_cons, Option.toList_some, Option.toList_none, List.cons_append, List.nil_append, if_false, if_true, true_and, and_true, forall_const, true_implies, false_implies, or_false, false_or, not_true_eq_false, not_false_eq_true, and_false, false_and, implies_true, Nat.reduceAdd, Nat.reduceEqDiff, Nat.reduceLT, ↓reduceIte, cls_CL_takeAll, st_aload_n, st_getfield, st_iconst, st_invokestatic, st_putfield, st_return_, (show mCL_takeAll.2.2.1 = 2 from rfl), gF_CL_9, gF_CL_15, fp_CL_takeAll_15, dCL_takeAll_0, dCL_takeAll_1, dCL_takeAll_4, ic_0, dCL_takeAll_5, dCL_takeAll_6, dCL_takeAll_9, dCL_takeAll_10, dCL_takeAll_11, dCL_takeAll_14, dCL_takeAll_17, dCL_takeAll_18, dCL_takeAll_19, dCL_takeAll_22, dCL_takeAll_25, ho, ho2]
  refine gw_copy dCL_takeAll_14 wl_CL_23 hcI hc2 hc (by omega) hn2 hn2 ⟨by decide, Nat.le_of_ble_eq_true rfl⟩ ?_
  refine gw_ev (T := gT0) 60 [] gRt_m (gTO_0 _ _ _ ⟨Nat.le_refl _, Nat.le_refl _⟩) ?_
  simp only [vc_i, vc_l, vc_r, vc_n, Nat.succ_ne_self, gSd_s, gEd_s, gEd_0, gEd_B, gB_t, gB_f, gGo_c, gGo_n, gAll_n, gAll_c, gwK_s, gCT, gCF, gSet, gSet2, gKill, gTw, gTs, gLs, List.map_cons, List.map_nil, fv0, fv1, fv2, fv3, List.getElem?_cons_zero, List.getElem?_cons_succ, List.set_cons_zero, List.set_cons_succ, List.not_mem_nil, List.mem_cons, Option.toList_some, Option.toList_none, List.cons_append, List.nil_append, if_false, if_true, true_and, and_true, forall_const, true_implies, false_implies, or_false, false_or, not_true_eq_false, not_false_eq_true, and_false, false_and, implies_true, Nat.reduceAdd, Nat.reduceEqDiff, Nat.reduceLT, ↓reduceIte, cls_CL_takeAll, st_aload_n, st_getfield, st_iconst, st_invokestatic, st_putfield, st_return_, (show mCL_takeAll.2.2.1 = 2 from rfl), gF_CL_9, gF_CL_15, fp_CL_takeAll_15, dCL_takeAll_0, dCL_takeAll_1, dCL_takeAll_4, ic_0, dCL_takeAll_5, dCL_takeAll_6, dCL_takeAll_9, dCL_takeAll_10, dCL_takeAll_11, dCL_takeAll_14, dCL_takeAll_17, dCL_takeAll_18, dCL_takeAll_19, dCL_takeAll_22, dCL_takeAll_25, gup_n _ _ x1, gup_n _ _ x2, ho, ho2]
  exact ⟨⟨by show 1 < 2; decide, fit_i _⟩, rfl⟩
theorem fiF_lt (N K : Nat) (rt : Int32) : ∀ (m t : Nat) (st : FS), (fiF N K rt m t st).1 ≤ t + m
  | 0, t, st => Nat.zero_le _
  | m + 1, t, st => by
    unfold fiF
    split
    · show t ≤ _
      omega
    · have := fiF_lt N K rt m (t + 1) (fiS N K st)
      omega
def mkS (N K v : Nat) (rt : Int32) (s : RMS) : Nat × FS := fiF N K rt 4 1 ((s.2.1.1.1, s.2.1.1.2.1, s.2.1.1.2.2.1, v), s.2.1.2)
set_option maxRecDepth 100000 in
set_option maxHeartbeats 4000000 in
theorem c_RM_make (l : Launch) (g : gG) (cL cI : ClassId) (hcI : (cI, FieldType.int) ∈ g.2.1) (N K : Nat) (hNK : okNK N K) (M : Nat → Nat) (hM : apU M 32) (s : RMS) (h : gH) (hI : isRM cL cI N K M s h) (v : Nat) (hv : 1 ≤ v ∧ v ≤ 2147483646) (rt : Int32) (hr1 : ¬ rt < 1) (hr5 : rt ≤ 5) : gC l g mRM_make (gr (N * K + 6)) [.ref (M 0), .int (nI v), .int rt] h (fun r h' => r = some (.int (nI (mkS N K v rt s).1)) ∧ isRM cL cI N K M (if (mkS N K v rt s).1 = 0 then s.1 else ((mkS N K v rt s).2.2.1, va_cpy (mkS N K v rt s).2.2.2.1 s.1.2 0 0 (mkS N K v rt s).2.2.1), (mkS N K v rt s).2, s.2.2) h' ∧ ∀ q, (∀ i, i < 32 → q ≠ M i) → h' q = h q) := by
  have ne : ∀ {i j : Nat}, i < 32 → j < 32 → i ≠ j → M i ≠ M j := fun hi hj n => apU_ne hM hi hj n
  obtain ⟨k0, i2, i3, i4, i5⟩ := id hI
  have hU : apU (fun i => M (3 + i)) 18 := fun i j hi hj e => by
    have := hM (3 + i) (3 + j) (by omega) (by omega) e
    omega
  have hC := c_MA_find l g cI hcI (fun i => M (3 + i)) hU N K hNK v (by omega) rt s.2.1 h i3
  have hle := fiF_lt N K rt 4 1 ((s.2.1.1.1, s.2.1.1.2.1, s.2.1.1.2.2.1, v), s.2.1.2)
  rw [show fiF N K rt 4 1 ((s.2.1.1.1, s.2.1.1.2.1, s.2.1.1.2.2.1, v), s.2.1.2) = mkS N K v rt s from rfl] at hC hle
  generalize mkS N K v rt s = F at hC hle ⊢
  have p0 : h (M 3) = some (.inr (1, fMA (nI N) (nI (N * K)) (fun i => M (3 + i)) (M 6) s.2.1.1.2.2.1 s.2.1.1.2.2.2)) := i3.1.2.2
  have c1 : ¬ nI v < 1 := nI_nlt (b := 1) hv.1 (by omega)
  have c2 : ¬ (2147483646 : Int32) < nI v := nI_nlt (a := 2147483646) hv.2 (by omega)
  refine gC_of (lv0 := [some (.ref (M 0)), some (.int (nI v)), some (.int rt), none]) (by decide +kernel) (Nat.le_of_ble_eq_true rfl) (fun q hq => hq) ⟨rfl, rfl⟩ ?_
  refine gw_ev (T := gT0) 60 [] gRt_m (gTO_0 _ _ _ ⟨Nat.le_refl _, Nat.le_refl _⟩) ?_
  simp only [vc_i, vc_l, vc_r, vc_n, Nat.succ_ne_self, gSd_s, gEd_s, gEd_0, gEd_B, gB_t, gB_f, gGo_c, gGo_n, gAll_n, gAll_c, gwK_s, gCT, gCF, gSet, gSet2, gKill, gTw, gTs, gLs, List.map_cons, List.map_nil, fv0, fv1, fv2, fv3, List.getElem?_cons_zero, List.getElem?_cons_succ, List.set_cons_zero, List.set_cons_succ, List.not_mem_nil, List.mem_cons, Option.toList_some, Option.toList_none, List.cons_append, List.nil_append, if_false, if_true, true_and, and_true, forall_const, true_implies, false_implies, or_false, false_or, not_true_eq_false, not_false_eq_true, and_false, false_and, implies_true, Nat.reduceAdd, Nat.reduceEqDiff, Nat.reduceLT, ↓reduceIte, cls_RM_make, st_iload_n, st_iconst, st_if_icmp, st_ldc, st_new, st_dup, st_invokespecial, st_athrow, st_aload_n, st_getfield, st_invokevirtual, st_istore_n, st_ifCond, st_ireturn, (show mRM_make.2.2.1 = 4 from rfl), ki_RM_162, gF_RM_54, gF_RM_37, gF_RM_48, tn_RM_165, (show gT0 86 = none from rfl), gF_RM_28, gF_RM_169, tn_RM_172, (show gT0 95 = none from rfl), dRM_make_0, dRM_make_1, ic_1, dRM_make_2, tg_2_19, tz_2_19, dRM_make_5, dRM_make_6, dRM_make_8, tg_8_13, tz_8_13, dRM_make_11, dRM_make_12, dRM_make_13, tg_13_8, tz_13_8, dRM_make_16, dRM_make_17, ic_5, dRM_make_18, tg_18_13, tz_18_13, dRM_make_21, dRM_make_24, dRM_make_25, dRM_make_27, dRM_make_30, dRM_make_31, dRM_make_32, dRM_make_35, dRM_make_36, dRM_make_37, dRM_make_38, dRM_make_41, dRM_make_42, dRM_make_45, dRM_make_48, dRM_make_49, dRM_make_50, tg_50_17, tz_50_17, dRM_make_53, dRM_make_54, dRM_make_57, dRM_make_58, dRM_make_61, dRM_make_64, dRM_make_67, dRM_make_68, k0, fRM, c1, c2, hr1, hr5]
  refine gw_cQ (r := []) dRM_make_45 (hC) rfl (p0) rfl wc_MA_find wl_RM_165 wi_MA_find ws_MA_find wn_MA (by show _ ∧ _ ∧ _ = some 4; decide +kernel) (by decide) (gr_ge (by first | decide | omega)) (Nat.le_of_ble_eq_true rfl) ⟨Nat.le_refl _, Nat.le_refl _⟩ ?_
  intro vv h2 hvv
  obtain ⟨rfl, j3, fr⟩ := hvv
  have q0 : h2 (M 0) = some (.inr (5, fRM N K M)) := (fr _ (fun i hi => ne (by omega) (by omega) (by omega))).trans k0
  have q1 : isCL cI (M 1) (M 2) s.1.1 s.1.2 h2 := isCL_fr (fr _ (fun i hi => ne (by omega) (by omega) (by omega))) (fr _ (fun i hi => ne (by omega) (by omega) (by omega))) i2
  have q3 : h2 (M 3) = some (.inr (1, fMA (nI N) (nI (N * K)) (fun i => M (3 + i)) (M 6) F.2.1.2.2.1 F.2.1.2.2.2)) := j3.1.2.2
  have q6 : isCL cI (M 6) (M 7) F.2.2.1 F.2.2.2.1 h2 := j3.2.1
  have hE1 : isRM cL cI N K M (s.1, F.2, s.2.2) h2 := ⟨q0, q1, j3, isPR_fr (fun i hi => fr _ (fun j hj => ne (by omega) (by omega) (by omega))) i4, isSP_fr (fun i hi => fr _ (fun j hj => ne (by omega) (by omega) (by omega))) i5⟩
  have fr2 : ∀ q, (∀ i, i < 32 → q ≠ M i) → h2 q = h q := fun q n => fr q (fun i hi => n _ (by omega))
  by_cases hz : F.1 = 0
  · have c3 : nI F.1 ≤ 0 := by rw [hz]; decide
    rw [if_pos hz]
    refine gw_ev (T := gT0) 60 [] gRt_m (gTO_0 _ _ _ ⟨Nat.le_refl _, Nat.le_refl _⟩) ?_
    simp only [vc_i, vc_l, vc_r, vc_n, Nat.succ_ne_self, gSd_s, gEd_s, gEd_0, gEd_B, gB_t, gB_f, gGo_c, gGo_n, gAll_n, gAll_c, gwK_s, gCT, gCF, gSet, gSet2, gKill, gTw, gTs, gLs, List.map_cons, List.map_nil, fv0, fv1, fv2, fv3, List.getElem?_cons_zero, List.getElem?_cons_succ, List.set_cons_zero, List.set_cons_succ, List.not_mem_nil, List.mem_cons, Option.toList_some, Option.toList_none, List.cons_append, List.nil_append, if_false, if_true, true_and, and_true, forall_const, true_implies, false_implies, or_false, false_or, not_true_eq_false, not_false_eq_true, and_false, false_and, implies_true, Nat.reduceAdd, Nat.reduceEqDiff, Nat.reduceLT, ↓reduceIte, cls_RM_make, st_iload_n, st_iconst, st_if_icmp, st_ldc, st_new, st_dup, st_invokespecial, st_athrow, st_aload_n, st_getfield, st_invokevirtual, st_istore_n, st_ifCond, st_ireturn, (show mRM_make.2.2.1 = 4 from rfl), ki_RM_162, gF_RM_54, gF_RM_37, gF_RM_48, tn_RM_165, (show gT0 86 = none from rfl), gF_RM_28, gF_RM_169, tn_RM_172, (show gT0 95 = none from rfl), dRM_make_0, dRM_make_1, ic_1, dRM_make_2, tg_2_19, tz_2_19, dRM_make_5, dRM_make_6, dRM_make_8, tg_8_13, tz_8_13, dRM_make_11, dRM_make_12, dRM_make_13, tg_13_8, tz_13_8, dRM_make_16, dRM_make_17, ic_5, dRM_make_18, tg_18_13, tz_18_13, dRM_make_21, dRM_make_24, dRM_make_25, dRM_make_27, dRM_make_30, dRM_make_31, dRM_make_32, dRM_make_35, dRM_make_36, dRM_make_37, dRM_make_38, dRM_make_41, dRM_make_42, dRM_make_45, dRM_make_48, dRM_make_49, dRM_make_50, tg_50_17, tz_50_17, dRM_make_53, dRM_make_54, dRM_make_57, dRM_make_58, dRM_make_61, dRM_make_64, dRM_make_67, dRM_make_68, c3]
    exact ⟨rfl, hE1, fr2⟩
  · have c3 : ¬ nI F.1 ≤ 0 := nI_ge (a := 0) (by omega) (by omega)
    rw [if_neg hz]
    have hT := c_CL_takeAll l g cI hcI (M 1) (M 2) s.1.1 (M 6) (M 7) F.2.2.1 q6.2.2.1 s.1.2 F.2.2.2.1 h2 q1.1 q1.2.1 q6.1 q6.2.1 (ne (by omega) (by omega) (by omega)) (ne (by omega) (by omega) (by omega))
    obtain ⟨h3, hh3⟩ : ∃ h3, h3 = gup (gup h2 (M 2) (.inl (cI, 30, .inl (va_cpy F.2.2.2.1 s.1.2 0 0 F.2.2.1)))) (M 1) (.inr (0, [.ref (M 2), .int (nI F.2.2.1)])) := ⟨_, rfl⟩
    rw [← hh3] at hT
    have n12 : M 1 ≠ M 2 := ne (by omega) (by omega) (by omega)
    have hE2 := isRM_CL (n' := F.2.2.1) (cs' := va_cpy F.2.2.2.1 s.1.2 0 0 F.2.2.1) (h2 := h3) hM hE1 ⟨by rw [hh3, gup_s], by rw [hh3, gup_m _ _ n12, gup_s], q6.2.2.1, fun j => by
      unfold va_cpy
      split
      · exact q6.2.2.2 _
      · exact q1.2.2.2 _⟩ (fun q a b => by rw [hh3, gup_n _ _ a, gup_n _ _ b])
    have q11 := q1.1
    refine gw_ev (T := gT0) 60 [] gRt_m (gTO_0 _ _ _ ⟨Nat.le_refl _, Nat.le_refl _⟩) ?_
    simp only [vc_i, vc_l, vc_r, vc_n, Nat.succ_ne_self, gSd_s, gEd_s, gEd_0, gEd_B, gB_t, gB_f, gGo_c, gGo_n, gAll_n, gAll_c, gwK_s, gCT, gCF, gSet, gSet2, gKill, gTw, gTs, gLs, List.map_cons, List.map_nil, fv0, fv1, fv2, fv3, List.getElem?_cons_zero, List.getElem?_cons_succ, List.set_cons_zero, List.set_cons_succ, List.not_mem_nil, List.mem_cons, Option.toList_some, Option.toList_none, List.cons_append, List.nil_append, if_false, if_true, true_and, and_true, forall_const, true_implies, false_implies, or_false, false_or, not_true_eq_false, not_false_eq_true, and_false, false_and, implies_true, Nat.reduceAdd, Nat.reduceEqDiff, Nat.reduceLT, ↓reduceIte, cls_RM_make, st_iload_n, st_iconst, st_if_icmp, st_ldc, st_new, st_dup, st_invokespecial, st_athrow, st_aload_n, st_getfield, st_invokevirtual, st_istore_n, st_ifCond, st_ireturn, (show mRM_make.2.2.1 = 4 from rfl), ki_RM_162, gF_RM_54, gF_RM_37, gF_RM_48, tn_RM_165, (show gT0 86 = none from rfl), gF_RM_28, gF_RM_169, tn_RM_172, (show gT0 95 = none from rfl), dRM_make_0, dRM_make_1, ic_1, dRM_make_2, tg_2_19, tz_2_19, dRM_make_5, dRM_make_6, dRM_make_8, tg_8_13, tz_8_13, dRM_make_11, dRM_make_12, dRM_make_13, tg_13_8, tz_13_8, dRM_make_16, dRM_make_17, ic_5, dRM_make_18, tg_18_13, tz_18_13, dRM_make_21, dRM_make_24, dRM_make_25, dRM_make_27, dRM_make_30, dRM_make_31, dRM_make_32, dRM_make_35, dRM_make_36, dRM_make_37, dRM_make_38, dRM_make_41, dRM_make_42, dRM_make_45, dRM_make_48, dRM_make_49, dRM_make_50, tg_50_17, tz_50_17, dRM_make_53, dRM_make_54, dRM_make_57, dRM_make_58, dRM_make_61, dRM_make_64, dRM_make_67, dRM_make_68, q0, q3, fRM, fMA, c3]
    refine gw_cV (r := []) dRM_make_64 (hT) rfl (q11) rfl wc_CL_takeAll wl_RM_172 wi_CL_takeAll ws_CL_takeAll wn_CL (by show _ ∧ _ ∧ _ = some 1; decide +kernel) (by decide) (gr_ge (by first | decide | omega)) (Nat.le_of_ble_eq_true rfl) ⟨Nat.le_refl _, Nat.le_refl _⟩ ?_
    refine gw_ev (T := gT0) 60 [] gRt_m (gTO_0 _ _ _ ⟨Nat.le_refl _, Nat.le_refl _⟩) ?_
    simp only [vc_i, vc_l, vc_r, vc_n, Nat.succ_ne_self, gSd_s, gEd_s, gEd_0, gEd_B, gB_t, gB_f, gGo_c, gGo_n, gAll_n, gAll_c, gwK_s, gCT, gCF, gSet, gSet2, gKill, gTw, gTs, gLs, List.map_cons, List.map_nil, fv0, fv1, fv2, fv3, List.getElem?_cons_zero, List.getElem?_cons_succ, List.set_cons_zero, List.set_cons_succ, List.not_mem_nil, List.mem_cons, Option.toList_some, Option.toList_none, List.cons_append, List.nil_append, if_false, if_true, true_and, and_true, forall_const, true_implies, false_implies, or_false, false_or, not_true_eq_false, not_false_eq_true, and_false, false_and, implies_true, Nat.reduceAdd, Nat.reduceEqDiff, Nat.reduceLT, ↓reduceIte, cls_RM_make, st_iload_n, st_iconst, st_if_icmp, st_ldc, st_new, st_dup, st_invokespecial, st_athrow, st_aload_n, st_getfield, st_invokevirtual, st_istore_n, st_ifCond, st_ireturn, (show mRM_make.2.2.1 = 4 from rfl), ki_RM_162, gF_RM_54, gF_RM_37, gF_RM_48, tn_RM_165, (show gT0 86 = none from rfl), gF_RM_28, gF_RM_169, tn_RM_172, (show gT0 95 = none from rfl), dRM_make_0, dRM_make_1, ic_1, dRM_make_2, tg_2_19, tz_2_19, dRM_make_5, dRM_make_6, dRM_make_8, tg_8_13, tz_8_13, dRM_make_11, dRM_make_12, dRM_make_13, tg_13_8, tz_13_8, dRM_make_16, dRM_make_17, ic_5, dRM_make_18, tg_18_13, tz_18_13, dRM_make_21, dRM_make_24, dRM_make_25, dRM_make_27, dRM_make_30, dRM_make_31, dRM_make_32, dRM_make_35, dRM_make_36, dRM_make_37, dRM_make_38, dRM_make_41, dRM_make_42, dRM_make_45, dRM_make_48, dRM_make_49, dRM_make_50, tg_50_17, tz_50_17, dRM_make_53, dRM_make_54, dRM_make_57, dRM_make_58, dRM_make_61, dRM_make_64, dRM_make_67, dRM_make_68]
    exact ⟨rfl, hE2.1, fun q n => (hE2.2 q n).trans (fr2 q n)⟩
set_option maxRecDepth 100000 in
set_option maxHeartbeats 4000000 in
theorem t_RM_make (l : Launch) (htl : noTr l) (g : gG) (o : Nat) (a rt : Int32) (hbad : a < 1 ∨ (2147483646 : Int32) < a ∨ rt < 1 ∨ ¬ rt ≤ 5) (h : gH) : gT l g mRM_make (grT 6) [.ref o, .int a, .int rt] h thAn (fun h' => h' = h) := by
  refine gT_of (lv0 := [some (.ref o), some (.int a), some (.int rt), none]) (by decide +kernel) (Nat.le_of_ble_eq_true rfl) (fun q hq => hq) ⟨rfl, rfl⟩ ?_
  by_cases c1 : a < 1
  · refine gw_ev (T := gT0) 60 [] gRt_f (gTO_0 _ _ _ ⟨Nat.zero_le _, Nat.zero_le _⟩) ?_
    simp only [vc_i, vc_l, vc_r, vc_n, Nat.succ_ne_self, gSd_s, gEd_s, gEd_0, gEd_B, gB_t, gB_f, gGo_c, gGo_n, gAll_n, gAll_c, gwK_s, gCT, gCF, gSet, gSet2, gKill, gTw, gTs, gLs, List.map_cons, List.map_nil, fv0, fv1, fv2, fv3, List.getElem?_cons_zero, List.getElem?_cons_succ, List.set_cons_zero, List.set_cons_succ, List.not_mem_nil, List.mem_cons, Option.toList_some, Option.toList_none, List.cons_append, List.nil_append, if_false, if_true, true_and, and_true, forall_const, true_implies, false_implies, or_false, false_or, not_true_eq_false, not_false_eq_true, and_false, false_and, implies_true, Nat.reduceAdd, Nat.reduceEqDiff, Nat.reduceLT, ↓reduceIte, cls_RM_make, st_iload_n, st_iconst, st_if_icmp, st_ldc, st_new, st_dup, st_invokespecial, st_athrow, st_aload_n, st_getfield, st_invokevirtual, st_istore_n, st_ifCond, st_ireturn, (show mRM_make.2.2.1 = 4 from rfl), ki_RM_162, gF_RM_54, gF_RM_37, gF_RM_48, tn_RM_165, (show gT0 86 = none from rfl), gF_RM_28, gF_RM_169, tn_RM_172, (show gT0 95 = none from rfl), dRM_make_0, dRM_make_1, ic_1, dRM_make_2, tg_2_19, tz_2_19, dRM_make_5, dRM_make_6, dRM_make_8, tg_8_13, tz_8_13, dRM_make_11, dRM_make_12, dRM_make_13, tg_13_8, tz_13_8, dRM_make_16, dRM_make_17, ic_5, dRM_make_18, tg_18_13, tz_18_13, dRM_make_21, dRM_make_24, dRM_make_25, dRM_make_27, dRM_make_30, dRM_make_31, dRM_make_32, dRM_make_35, dRM_make_36, dRM_make_37, dRM_make_38, dRM_make_41, dRM_make_42, dRM_make_45, dRM_make_48, dRM_make_49, dRM_make_50, tg_50_17, tz_50_17, dRM_make_53, dRM_make_54, dRM_make_57, dRM_make_58, dRM_make_61, dRM_make_64, dRM_make_67, dRM_make_68, c1]
    exact gw_throw htl rfl dRM_make_21 dRM_make_24 dRM_make_25 dRM_make_27 dRM_make_30 (List.mem_of_getElem? (i := 4) rfl) thA_at thA_lk thA_in thA_ini thA_fit (Nat.le_refl _) (Nat.le_refl _) (by decide) (Nat.le_of_ble_eq_true rfl) (rfl)
  by_cases c2 : (2147483646 : Int32) < a
  · refine gw_ev (T := gT0) 60 [] gRt_f (gTO_0 _ _ _ ⟨Nat.zero_le _, Nat.zero_le _⟩) ?_
    simp only [vc_i, vc_l, vc_r, vc_n, Nat.succ_ne_self, gSd_s, gEd_s, gEd_0, gEd_B, gB_t, gB_f, gGo_c, gGo_n, gAll_n, gAll_c, gwK_s, gCT, gCF, gSet, gSet2, gKill, gTw, gTs, gLs, List.map_cons, List.map_nil, fv0, fv1, fv2, fv3, List.getElem?_cons_zero, List.getElem?_cons_succ, List.set_cons_zero, List.set_cons_succ, List.not_mem_nil, List.mem_cons, Option.toList_some, Option.toList_none, List.cons_append, List.nil_append, if_false, if_true, true_and, and_true, forall_const, true_implies, false_implies, or_false, false_or, not_true_eq_false, not_false_eq_true, and_false, false_and, implies_true, Nat.reduceAdd, Nat.reduceEqDiff, Nat.reduceLT, ↓reduceIte, cls_RM_make, st_iload_n, st_iconst, st_if_icmp, st_ldc, st_new, st_dup, st_invokespecial, st_athrow, st_aload_n, st_getfield, st_invokevirtual, st_istore_n, st_ifCond, st_ireturn, (show mRM_make.2.2.1 = 4 from rfl), ki_RM_162, gF_RM_54, gF_RM_37, gF_RM_48, tn_RM_165, (show gT0 86 = none from rfl), gF_RM_28, gF_RM_169, tn_RM_172, (show gT0 95 = none from rfl), dRM_make_0, dRM_make_1, ic_1, dRM_make_2, tg_2_19, tz_2_19, dRM_make_5, dRM_make_6, dRM_make_8, tg_8_13, tz_8_13, dRM_make_11, dRM_make_12, dRM_make_13, tg_13_8, tz_13_8, dRM_make_16, dRM_make_17, ic_5, dRM_make_18, tg_18_13, tz_18_13, dRM_make_21, dRM_make_24, dRM_make_25, dRM_make_27, dRM_make_30, dRM_make_31, dRM_make_32, dRM_make_35, dRM_make_36, dRM_make_37, dRM_make_38, dRM_make_41, dRM_make_42, dRM_make_45, dRM_make_48, dRM_make_49, dRM_make_50, tg_50_17, tz_50_17, dRM_make_53, dRM_make_54, dRM_make_57, dRM_make_58, dRM_make_61, dRM_make_64, dRM_make_67, dRM_make_68, c1, c2]
    exact gw_throw htl rfl dRM_make_21 dRM_make_24 dRM_make_25 dRM_make_27 dRM_make_30 (List.mem_of_getElem? (i := 4) rfl) thA_at thA_lk thA_in thA_ini thA_fit (Nat.le_refl _) (Nat.le_refl _) (by decide) (Nat.le_of_ble_eq_true rfl) (rfl)
  by_cases c3 : rt < 1
  · refine gw_ev (T := gT0) 60 [] gRt_f (gTO_0 _ _ _ ⟨Nat.zero_le _, Nat.zero_le _⟩) ?_
    simp only [vc_i, vc_l, vc_r, vc_n, Nat.succ_ne_self, gSd_s, gEd_s, gEd_0, gEd_B, gB_t, gB_f, gGo_c, gGo_n, gAll_n, gAll_c, gwK_s, gCT, gCF, gSet, gSet2, gKill, gTw, gTs, gLs, List.map_cons, List.map_nil, fv0, fv1, fv2, fv3, List.getElem?_cons_zero, List.getElem?_cons_succ, List.set_cons_zero, List.set_cons_succ, List.not_mem_nil, List.mem_cons, Option.toList_some, Option.toList_none, List.cons_append, List.nil_append, if_false, if_true, true_and, and_true, forall_const, true_implies, false_implies, or_false, false_or, not_true_eq_false, not_false_eq_true, and_false, false_and, implies_true, Nat.reduceAdd, Nat.reduceEqDiff, Nat.reduceLT, ↓reduceIte, cls_RM_make, st_iload_n, st_iconst, st_if_icmp, st_ldc, st_new, st_dup, st_invokespecial, st_athrow, st_aload_n, st_getfield, st_invokevirtual, st_istore_n, st_ifCond, st_ireturn, (show mRM_make.2.2.1 = 4 from rfl), ki_RM_162, gF_RM_54, gF_RM_37, gF_RM_48, tn_RM_165, (show gT0 86 = none from rfl), gF_RM_28, gF_RM_169, tn_RM_172, (show gT0 95 = none from rfl), dRM_make_0, dRM_make_1, ic_1, dRM_make_2, tg_2_19, tz_2_19, dRM_make_5, dRM_make_6, dRM_make_8, tg_8_13, tz_8_13, dRM_make_11, dRM_make_12, dRM_make_13, tg_13_8, tz_13_8, dRM_make_16, dRM_make_17, ic_5, dRM_make_18, tg_18_13, tz_18_13, dRM_make_21, dRM_make_24, dRM_make_25, dRM_make_27, dRM_make_30, dRM_make_31, dRM_make_32, dRM_make_35, dRM_make_36, dRM_make_37, dRM_make_38, dRM_make_41, dRM_make_42, dRM_make_45, dRM_make_48, dRM_make_49, dRM_make_50, tg_50_17, tz_50_17, dRM_make_53, dRM_make_54, dRM_make_57, dRM_make_58, dRM_make_61, dRM_make_64, dRM_make_67, dRM_make_68, c1, c2, c3]
    exact gw_throw htl rfl dRM_make_21 dRM_make_24 dRM_make_25 dRM_make_27 dRM_make_30 (List.mem_of_getElem? (i := 4) rfl) thA_at thA_lk thA_in thA_ini thA_fit (Nat.le_refl _) (Nat.le_refl _) (by decide) (Nat.le_of_ble_eq_true rfl) (rfl)
  have c4 : ¬ rt ≤ 5 := by
    rcases hbad with q | q | q | q
    · exact absurd q c1
    · exact absurd q c2
    · exact absurd q c3
    · exact q
  refine gw_ev (T := gT0) 60 [] gRt_f (gTO_0 _ _ _ ⟨Nat.zero_le _, Nat.zero_le _⟩) ?_
  simp only [vc_i, vc_l, vc_r, vc_n, Nat.succ_ne_self, gSd_s, gEd_s, gEd_0, gEd_B, gB_t, gB_f, gGo_c, gGo_n, gAll_n, gAll_c, gwK_s, gCT, gCF, gSet, gSet2, gKill, gTw, gTs, gLs, List.map_cons, List.map_nil, fv0, fv1, fv2, fv3, List.getElem?_cons_zero, List.getElem?_cons_succ, List.set_cons_zero, List.set_cons_succ, List.not_mem_nil, List.mem_cons, Option.toList_some, Option.toList_none, List.cons_append, List.nil_append, if_false, if_true, true_and, and_true, forall_const, true_implies, false_implies, or_false, false_or, not_true_eq_false, not_false_eq_true, and_false, false_and, implies_true, Nat.reduceAdd, Nat.reduceEqDiff, Nat.reduceLT, ↓reduceIte, cls_RM_make, st_iload_n, st_iconst, st_if_icmp, st_ldc, st_new, st_dup, st_invokespecial, st_athrow, st_aload_n, st_getfield, st_invokevirtual, st_istore_n, st_ifCond, st_ireturn, (show mRM_make.2.2.1 = 4 from rfl), ki_RM_162, gF_RM_54, gF_RM_37, gF_RM_48, tn_RM_165, (show gT0 86 = none from rfl), gF_RM_28, gF_RM_169, tn_RM_172, (show gT0 95 = none from rfl), dRM_make_0, dRM_make_1, ic_1, dRM_make_2, tg_2_19, tz_2_19, dRM_make_5, dRM_make_6, dRM_make_8, tg_8_13, tz_8_13, dRM_make_11, dRM_make_12, dRM_make_13, tg_13_8, tz_13_8, dRM_make_16, dRM_make_17, ic_5, dRM_make_18, tg_18_13, tz_18_13, dRM_make_21, dRM_make_24, dRM_make_25, dRM_make_27, dRM_make_30, dRM_make_31, dRM_make_32, dRM_make_35, dRM_make_36, dRM_make_37, dRM_make_38, dRM_make_41, dRM_make_42, dRM_make_45, dRM_make_48, dRM_make_49, dRM_make_50, tg_50_17, tz_50_17, dRM_make_53, dRM_make_54, dRM_make_57, dRM_make_58, dRM_make_61, dRM_make_64, dRM_make_67, dRM_make_68, c1, c2, c3, c4]
  exact gw_throw htl rfl dRM_make_21 dRM_make_24 dRM_make_25 dRM_make_27 dRM_make_30 (List.mem_of_getElem? (i := 4) rfl) thA_at thA_lk thA_in thA_ini thA_fit (Nat.le_refl _) (Nat.le_refl _) (by decide) (Nat.le_of_ble_eq_true rfl) (rfl)
