-- the mill's own state: 32 addresses; rating and fault
def isSP (cL cI : ClassId) (A : Nat → Nat) (s : SS) (h : gH) : Prop := h (A 1) = some (.inl (cL, 40, .inr (.inl s.1))) ∧ h (A 2) = some (.inl (cI, 60, .inl s.2.1)) ∧ h (A 3) = some (.inl (cI, 60, .inl s.2.2.1)) ∧ h (A 4) = some (.inl (cI, 5, .inl s.2.2.2.1)) ∧ h (A 0) = some (.inr (3, fSP A s.2.2.2.2.1 s.2.2.2.2.2.1 s.2.2.2.2.2.2.1 s.2.2.2.2.2.2.2.1 s.2.2.2.2.2.2.2.2.1 s.2.2.2.2.2.2.2.2.2.1 s.2.2.2.2.2.2.2.2.2.2))
def fRM (N K : Nat) (M : Nat → Nat) : List Value := [.int (nI N), .int (nI K), .ref (M 1), .ref (M 8), .ref (M 21), .ref (M 15), .ref (M 3), .ref (M 27)]
/-- clues; maker, riddle, worlds, trial; proof; speech -/
abbrev RMS : Type := (Nat × (Nat → Int32)) × FS × PS × SS
def isRM (cL cI : ClassId) (N K : Nat) (M : Nat → Nat) (s : RMS) (h : gH) : Prop := h (M 0) = some (.inr (5, fRM N K M)) ∧ isCL cI (M 1) (M 2) s.1.1 s.1.2 h ∧ mkI cI N K (fun i => M (3 + i)) s.2.1 h ∧ isPR cI N K (fun i => M (21 + i)) s.2.2.1 h ∧ isSP cL cI (fun i => M (27 + i)) s.2.2.2 h
section MILL
variable {cL cI : ClassId} {N K : Nat} {M A : Nat → Nat} {h h' : gH}
theorem isSP_fr {s : SS} (f : ∀ i, i < 5 → h' (A i) = h (A i)) (e : isSP cL cI A s h) : isSP cL cI A s h' := ⟨(f 1 (by decide)).trans e.1, (f 2 (by decide)).trans e.2.1, (f 3 (by decide)).trans e.2.2.1, (f 4 (by decide)).trans e.2.2.2.1, (f 0 (by decide)).trans e.2.2.2.2⟩
theorem isSP_h {s : SS} (e : isSP cL cI A s h) : hSP cL cI A s h = h := gh5_id e.1 e.2.1 e.2.2.1 e.2.2.2.1 e.2.2.2.2
theorem isSP_of {s : SS} (hA : apS A) : isSP cL cI A s (hSP cL cI A s h) := ⟨gh5_g0 hA, gh5_g1 hA, gh5_g2 hA, gh5_g3 hA, gh5_g4 hA⟩
end MILL
set_option maxRecDepth 100000 in
set_option maxHeartbeats 4000000 in
theorem c_RM_fault (l : Launch) (g : gG) (cL cI : ClassId) (N K : Nat) (M : Nat → Nat) (s : RMS) (h : gH) (hI : isRM cL cI N K M s h) : gC l g mRM_fault (gr 0) [.ref (M 0)] h (fun r h' => r = some (.int s.2.2.2.2.2.2.2.2.2.1) ∧ h' = h) := by
  obtain ⟨k0, _, _, _, i5⟩ := hI
  have k1 : h (M 27) = some (.inr (3, fSP (fun i => M (27 + i)) s.2.2.2.2.2.2.2.1 s.2.2.2.2.2.2.2.2.1 s.2.2.2.2.2.2.2.2.2.1 s.2.2.2.2.2.2.2.2.2.2.1 s.2.2.2.2.2.2.2.2.2.2.2.1 s.2.2.2.2.2.2.2.2.2.2.2.2.1 s.2.2.2.2.2.2.2.2.2.2.2.2.2)) := i5.2.2.2.2
  refine gC_of (lv0 := [some (.ref (M 0))]) (by decide +kernel) (Nat.le_of_ble_eq_true rfl) (fun q hq => hq) ⟨rfl, rfl⟩ ?_
  refine gw_ev (T := gT0) 60 [] gRt_m (gTO_0 _ _ _ ⟨Nat.le_refl _, Nat.le_refl _⟩) ?_
  simp only [vc_i, vc_l, vc_r, vc_n, Nat.succ_ne_self, gSd_s, gEd_s, gEd_0, gEd_B, gB_t, gB_f, gGo_c, gGo_n, gAll_n, gAll_c, gwK_s, gCT, gCF, gSet, gSet2, gKill, gTw, gTs, gLs, List.map_cons, List.map_nil, fv0, fv1, fv2, fv3, List.getElem?_cons_zero, List.getElem?_cons_succ, List.set_cons_zero, List.set_cons_succ, List.not_mem_nil, List.mem_cons, Option.toList_some, Option.toList_none, List.cons_append, List.nil_append, if_false, if_true, true_and, and_true, forall_const, true_implies, false_implies, or_false, false_or, not_true_eq_false, not_false_eq_true, and_false, false_and, implies_true, Nat.reduceAdd, Nat.reduceEqDiff, Nat.reduceLT, ↓reduceIte, cls_RM_fault, st_aload_n, st_getfield, st_ireturn, (show mRM_fault.2.2.1 = 1 from rfl), gF_RM_61, gF_RM_201, dRM_fault_0, dRM_fault_1, dRM_fault_4, dRM_fault_7, k0, k1, fRM, fSP]
  exact rfl
set_option maxRecDepth 100000 in
set_option maxHeartbeats 4000000 in
theorem c_RM_rating (l : Launch) (g : gG) (cL cI : ClassId) (hcI : (cI, FieldType.int) ∈ g.2.1) (N K : Nat) (hN : 0 < N ∧ N ≤ 5) (hK : K ≤ 3) (M : Nat → Nat) (hM : apU M 32) (s : RMS) (h : gH) (hI : isRM cL cI N K M s h) : gC l g mRM_rating (gr 5) [.ref (M 0)] h (fun r h' => r = some (.int (runF N K s.1.1 s.1.2 s.2.1.2.2.2).2.2.2.2.2.2.1) ∧ isRM cL cI N K M (s.1, (s.2.1.1, s.2.1.2.1, s.2.1.2.2.1, runF N K s.1.1 s.1.2 s.2.1.2.2.2), s.2.2) h' ∧ ∀ q, (∀ i, i < 32 → q ≠ M i) → h' q = h q) := by
  have ne : ∀ {i j : Nat}, i < 32 → j < 32 → i ≠ j → M i ≠ M j := fun hi hj n => apU_ne hM hi hj n
  obtain ⟨k0, i2, ⟨a1, a2, a3, a4⟩, i4, i5⟩ := hI
  have hP : apP (fun i => M (3 + (12 + i))) := by
    refine ⟨?_, ?_, ?_, ?_, ?_, ?_, ?_, ?_, ?_, ?_, ?_, ?_, ?_, ?_, ?_⟩ <;> exact ne (by omega) (by omega) (by omega)
  have hC := c_PR_run l g cI hcI (fun i => M (3 + (12 + i))) hP N K s.1.1 (M 1) (M 2) hN hK s.1.2 s.2.1.2.2.2 h i2 (fun i hi => ne (by omega) (by omega) (by omega)) (fun i hi => ne (by omega) (by omega) (by omega))
  rw [isPR_h a4] at hC
  obtain ⟨t, ht⟩ : ∃ t, t = runF N K s.1.1 s.1.2 s.2.1.2.2.2 := ⟨_, rfl⟩
  rw [← ht] at hC ⊢
  have p0 : h (M 15) = some (.inr (2, fPR (nI N) (nI (N * K)) (fun i => M (3 + (12 + i))) (nI s.2.1.2.2.2.2.2.2.2.2.1) s.2.1.2.2.2.2.2.2.2.2.2.1 s.2.1.2.2.2.2.2.2.2.2.2.2)) := a4.2.2.2.2.2
  refine gC_of (lv0 := [some (.ref (M 0))]) (by decide +kernel) (Nat.le_of_ble_eq_true rfl) (fun q hq => hq) ⟨rfl, rfl⟩ ?_
  refine gw_ev (T := gT0) 60 [] gRt_m (gTO_0 _ _ _ ⟨Nat.le_refl _, Nat.le_refl _⟩) ?_
  simp only [vc_i, vc_l, vc_r, vc_n, Nat.succ_ne_self, gSd_s, gEd_s, gEd_0, gEd_B, gB_t, gB_f, gGo_c, gGo_n, gAll_n, gAll_c, gwK_s, gCT, gCF, gSet, gSet2, gKill, gTw, gTs, gLs, List.map_cons, List.map_nil, fv0, fv1, fv2, fv3, List.getElem?_cons_zero, List.getElem?_cons_succ, List.set_cons_zero, List.set_cons_succ, List.not_mem_nil, List.mem_cons, Option.toList_some, Option.toList_none, List.cons_append, List.nil_append, if_false, if_true, true_and, and_true, forall_const, true_implies, false_implies, or_false, false_or, not_true_eq_false, not_false_eq_true, and_false, false_and, implies_true, Nat.reduceAdd, Nat.reduceEqDiff, Nat.reduceLT, ↓reduceIte, cls_RM_rating, st_aload_n, st_getfield, st_invokevirtual, st_ireturn, (show mRM_rating.2.2.1 = 1 from rfl), gF_RM_48, gF_RM_28, tn_RM_137, (show gT0 29 = none from rfl), gF_RM_159, dRM_rating_0, dRM_rating_1, dRM_rating_4, dRM_rating_5, dRM_rating_8, dRM_rating_11, dRM_rating_12, dRM_rating_15, dRM_rating_18, k0, fRM]
  refine gw_cV (r := []) dRM_rating_8 (hC) rfl (p0) rfl wc_PR_run wl_RM_137 wi_PR_run ws_PR_run wn_PR (by show _ ∧ _ ∧ _ = some 1; decide +kernel) (by decide) (gr_ge (by first | decide | omega)) (Nat.le_of_ble_eq_true rfl) ⟨Nat.le_refl _, Nat.le_refl _⟩ ?_
  obtain ⟨h2, hh2⟩ : ∃ h2, h2 = hPR cI (fun i => M (3 + (12 + i))) (nI N) (nI (N * K)) t h := ⟨_, rfl⟩
  rw [← hh2]
  have b4 : isPR cI N K (fun i => M (3 + (12 + i))) t h2 := by rw [hh2]; exact isPR_of hP
  have fr : ∀ q, (∀ i, i < 6 → q ≠ M (3 + (12 + i))) → h2 q = h q := fun q n => by rw [hh2]; exact hPRx n
  have q0 : h2 (M 0) = some (.inr (5, fRM N K M)) := (fr _ (fun i hi => ne (by omega) (by omega) (by omega))).trans k0
  have q1 : h2 (M 15) = some (.inr (2, fPR (nI N) (nI (N * K)) (fun i => M (3 + (12 + i))) (nI t.2.2.2.2.2.1) t.2.2.2.2.2.2.1 t.2.2.2.2.2.2.2)) := b4.2.2.2.2.2
  have hEnd : isRM cL cI N K M (s.1, (s.2.1.1, s.2.1.2.1, s.2.1.2.2.1, t), s.2.2) h2 := by
    refine ⟨q0, isCL_fr (fr _ (fun i hi => ne (by omega) (by omega) (by omega))) (fr _ (fun i hi => ne (by omega) (by omega) (by omega))) i2, ⟨isMA_fr (fun i hi => fr _ (fun j hj => ne (by omega) (by omega) (by omega))) a1, isCL_fr (fr _ (fun i hi => ne (by omega) (by omega) (by omega))) (fr _ (fun i hi => ne (by omega) (by omega) (by omega))) a2, isWO_fr (fun i hi => fr _ (fun j hj => ne (by omega) (by omega) (by omega))) a3, b4⟩, isPR_fr (fun i hi => fr _ (fun j hj => ne (by omega) (by omega) (by omega))) i4, isSP_fr (fun i hi => fr _ (fun j hj => ne (by omega) (by omega) (by omega))) i5⟩
  refine gw_ev (T := gT0) 60 [] gRt_m (gTO_0 _ _ _ ⟨Nat.le_refl _, Nat.le_refl _⟩) ?_
  simp only [vc_i, vc_l, vc_r, vc_n, Nat.succ_ne_self, gSd_s, gEd_s, gEd_0, gEd_B, gB_t, gB_f, gGo_c, gGo_n, gAll_n, gAll_c, gwK_s, gCT, gCF, gSet, gSet2, gKill, gTw, gTs, gLs, List.map_cons, List.map_nil, fv0, fv1, fv2, fv3, List.getElem?_cons_zero, List.getElem?_cons_succ, List.set_cons_zero, List.set_cons_succ, List.not_mem_nil, List.mem_cons, Option.toList_some, Option.toList_none, List.cons_append, List.nil_append, if_false, if_true, true_and, and_true, forall_const, true_implies, false_implies, or_false, false_or, not_true_eq_false, not_false_eq_true, and_false, false_and, implies_true, Nat.reduceAdd, Nat.reduceEqDiff, Nat.reduceLT, ↓reduceIte, cls_RM_rating, st_aload_n, st_getfield, st_invokevirtual, st_ireturn, (show mRM_rating.2.2.1 = 1 from rfl), gF_RM_48, gF_RM_28, tn_RM_137, (show gT0 29 = none from rfl), gF_RM_159, dRM_rating_0, dRM_rating_1, dRM_rating_4, dRM_rating_5, dRM_rating_8, dRM_rating_11, dRM_rating_12, dRM_rating_15, dRM_rating_18, q0, q1, fRM, fPR]
  exact ⟨rfl, hEnd, fun q n => fr q (fun i hi => n _ (by omega))⟩
