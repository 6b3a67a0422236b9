-- the law from its entry: what is given, and the walk
def refOf : Option Value → Nat
  | some (.ref a) => a
  | _ => 0
theorem lin {w : Cond} (i : Nat) (h : tables_1[i]? = some w) : w ∈ lw_tbl := List.mem_append_right _ (List.mem_of_getElem? h)
theorem va_T_ty {t N N2 : Nat} {f f2 : Nat → Value} {A : Nat → Prop} {s : State} {H : Heap} (h1 : va_T .int t N f A s H) (h2 : va_T .long t N2 f2 A s H) : False := by
  obtain ⟨c1, a1, ⟨-, k1, b1, d1, e1⟩, -⟩ := h1
  obtain ⟨c2, a2, ⟨-, k2, b2, d2, e2⟩, -⟩ := h2
  rw [a1] at a2
  cases a2
  rw [b1] at b2
  cases b2
  rw [e1] at e2
  cases e2
theorem va_T_len {ty : FieldType} {t : Nat} {f f2 : Nat → Value} {A : Nat → Prop} {s : State} {H : Heap} (h1 : va_T ty t 15 f A s H) (h2 : va_T ty t 70 f2 A s H) : False := by
  obtain ⟨c1, a1, -, -, -, e1, -⟩ := h1
  obtain ⟨c2, a2, -, -, -, e2, -⟩ := h2
  rw [a1] at a2
  cases a2
  exact absurd (e1.symm.trans e2) (by decide)
theorem va_T_lt {ty : FieldType} {t N : Nat} {f : Nat → Value} {A : Nat → Prop} {s : State} {H : Heap} (h : va_T ty t N f A s H) : t < H.size := by
  obtain ⟨c1, a1, -⟩ := h
  exact (Array.getElem?_eq_some_iff.mp a1).1
theorem gw_lawend {l : Launch} {g : gG} {lv : gV} {h : gH} : gw l g mLW_law room_1 h9 lw_Z 601024 7293000 904 lv [.int 1] h := by
  intro p e s m args below meth c C H locs hP hD hS ls hl
  refine va_forget (fun q hq => ?_) ?_
  · rcases hS.2.2 q hq with ⟨x, hx⟩ | h
    · cases hx
    · exact h
  · exact lw_retA C.1 C.2.1 C.2.2.2.2.2.2.2.1 C.2.2.2.2.2.2.1 dLW_law_904
set_option maxRecDepth 100000 in
set_option maxHeartbeats 4000000 in
theorem lw_exit {l : Launch} {g : gG} (lv : gV) (h : gH) : gw l g mLW_law room_1 h9 (gZl h9 lw_Z) 601024 7293000 903 lv [] h := by
  refine gw_ev (T := gT0) 60 [904] gRt_f (gTO_0 _ _ _ ⟨Nat.le_refl _, Nat.le_refl _⟩) ?_
  simp only [vc_i, vc_l, vc_r, vc_n, Nat.succ_ne_self, gSd_s, gEd_s, gEd_0, gEd_B, gB_t, gB_f, gGo_c, gGo_n, gAll_n, gAll_c, gwK_s, gCT, gCF, gSet, gSet2, gKill, gTw, gTs, gLs, List.map_cons, List.map_nil, fv0, fv1, fv2, fv3, List.getElem?_cons_zero, List.getElem?_cons_succ, List.set_cons_zero, List.set_cons_succ, List.not_mem_nil, List.mem_cons, Option.toList_some, Option.toList_none, List.cons_append, List.nil_append, if_false, if_true, true_and, and_true, forall_const, true_implies, false_implies, or_false, false_or, not_true_eq_false, not_false_eq_true, and_false, false_and, implies_true, Nat.reduceAdd, Nat.reduceEqDiff, Nat.reduceLT, ↓reduceIte, cls_LW_law, st_iinc, st_goto, st_iconst, st_ireturn, (show mLW_law.2.2.1 = 7 from rfl), dLW_law_897, ic_7, dLW_law_900, tg_900_m857, tz_900_m857, dLW_law_903, ic_1, dLW_law_904]
  exact gw_l gw_lawend
set_option maxRecDepth 100000 in
set_option maxHeartbeats 4000000 in
/-- from the entry, for every script of at most 3586 ints, the law comes to its end with true -/
theorem whole_start {p : Program} {e : Env} {s : State} {m : MethodId} {below : List Frame} {meth : Method} {c : Code} (l : Launch) (htl : noTr l) {b L : Nat} {xs : Nat → Int32} (hL : L ≤ 3586) (hnm : meth.name = "law") (C0 : lw_At p s m meth c b L xs) : W p l e room_1 s m #[Value.ref b] below meth c s.heap [] 0 0 (lw_Z below #[Value.ref b] s) (entryFrame m ([Value.ref b] : List Value).toArray 7) := by
  obtain ⟨hx, hb, hr, hml, hown, hts, hX, hbl, hlocks, hgv⟩ := id C0
  have hs := flat_of_before _ hgv
  have hw : ∀ w ∈ gWS, w.before #[Value.ref b] s = true := fun w h => hts w (List.mem_filter.mp h).1
  have hA : ∀ a : Nat, a < s.heap.size → ¬ gA h9 s.heap.size a := fun a h z => by
    rcases z with ⟨x, hx⟩ | z
    · cases hx
    · omega
  obtain ⟨c0, i0, k0⟩ := u_known (C := RCL) (T := TCL) (N := 2) (n := 2) hw (gCL_ok (ci := 0) rfl).1 (hw _ wx_CL)
  obtain ⟨c1, i1, k1⟩ := u_known (C := RMA) (T := TMA) (N := 7) (n := 7) hw (gCL_ok (ci := 1) rfl).1 (hw _ wx_MA)
  obtain ⟨c2, i2, k2⟩ := u_known (C := RPR) (T := TPR) (N := 10) (n := 10) hw (gCL_ok (ci := 2) rfl).1 (hw _ wx_PR)
  obtain ⟨c3, i3, k3⟩ := u_known (C := RSP) (T := TSP) (N := 11) (n := 11) hw (gCL_ok (ci := 3) rfl).1 (hw _ wx_SP)
  obtain ⟨c4, i4, k4⟩ := u_known (C := RWO) (T := TWO) (N := 15) (n := 15) hw (gCL_ok (ci := 4) rfl).1 (hw _ wx_WO)
  obtain ⟨c5, i5, k5⟩ := u_known (C := RRM) (T := TRM) (N := 8) (n := 8) hw (gCL_ok (ci := 5) rfl).1 (hw _ wx_RM)
  obtain ⟨c6, i6, k6⟩ := u_known (C := RRF) (T := TRF) (N := 33) (n := 33) hw (gCL_ok (ci := 6) rfl).1 (hw _ wx_RF)
  obtain ⟨dC, dI, hKc⟩ : ∃ (dC : Nat → ClassId) (dI : Nat → Nat → Nat), ∀ (k : Nat) (q : vw_C), gCL[k]? = some q → u_Kn s q.1 q.2.1 q.2.2 (dC k) (dI k) := by
    refine ⟨fun k => match k with | 0 => c0 | 1 => c1 | 2 => c2 | 3 => c3 | 4 => c4 | 5 => c5 | _ => c6, fun k => match k with | 0 => i0 | 1 => i1 | 2 => i2 | 3 => i3 | 4 => i4 | 5 => i5 | _ => i6, ?_⟩
    intro k q hq
    match k, hq with
    | 0, hq => cases hq; exact k0
    | 1, hq => cases hq; exact k1
    | 2, hq => cases hq; exact k2
    | 3, hq => cases hq; exact k3
    | 4, hq => cases hq; exact k4
    | 5, hq => cases hq; exact k5
    | 6, hq => cases hq; exact k6
    | k + 7, hq => simp [gCL] at hq
  obtain ⟨cB, aB, rB⟩ := gv_arr (hw _ wA_byte)
  obtain ⟨cL, aL, rL⟩ := gv_arr (hw _ wA_long)
  obtain ⟨cI, aI, rI⟩ := gv_arr (hw _ wA_int)
  have hK : va_K (dC, dI) gCL [(cB, FieldType.byte), (cL, FieldType.long), (cI, FieldType.int)] s := ⟨hKc, fun k q hq => by
    match k, hq with
    | 0, hq => cases hq; exact ⟨aB, rB⟩
    | 1, hq => cases hq; exact ⟨aL, rL⟩
    | 2, hq => cases hq; exact ⟨aI, rI⟩
    | k + 3, hq => simp at hq⟩
  obtain ⟨tW, eW, TW⟩ := va_Tof (tm := .static "RiddleMill$Speech" "WORDS" "[J") (ty := .long) (N := 15) (f := fun j => .long (wdF j)) (A := gA h9 s.heap.size) (by decide) (hs _ (by decide +kernel)) (va_eqt (hs (Cond.eq (.length (.static "RiddleMill$Speech" "WORDS" "[J")) (.int 15)) (by decide +kernel))) (fun j hj => va_eqtl (hs _ (gv_W j hj))) hA
  obtain ⟨tF, eF, TF⟩ := va_Tof (tm := .static "RiddleMill$Speech" "FORMS" "[J") (ty := .long) (N := 70) (f := fun j => .long (fmF j)) (A := gA h9 s.heap.size) (by decide) (hs _ (by decide +kernel)) (va_eqt (hs (Cond.eq (.length (.static "RiddleMill$Speech" "FORMS" "[J")) (.int 70)) (by decide +kernel))) (fun j hj => va_eqtl (hs _ (gv_F j hj))) hA
  have ZW := va_Zof (hts _ (lin 434 rfl)) (hts _ (lin 7 rfl)) eW hA
  have ZF := va_Zof (hts _ (lin 466 rfl)) (hts _ (lin 7 rfl)) eF hA
  have TS : va_T .int b L (fun j => .int (xs j)) (gA h9 s.heap.size) s s.heap := by
    obtain ⟨scr, s1, s2, s3, s4, s5⟩ := hX
    exact ⟨scr, s1, s2, s3, Nat.le_of_eq s4.symm, congrArg _ s4, s5, hA b hbl⟩
  obtain ⟨sa, hsa⟩ : ∃ sa : Nat → Nat, ∀ e ∈ gStr, vk_R "RiddleMill" e.1 e.2 (sa e.1) s := by
    refine ⟨fun k => refOf ((Term.string "RiddleMill" k).eval #[] s none [] s), fun e he => ?_⟩
    obtain ⟨q1, q2⟩ := gv_st e he
    obtain ⟨a, ha⟩ := gv_str (hs _ q2)
    have ha' : (Term.string "RiddleMill" e.1).eval #[] s none [] s = some (.ref a) := ha
    show vk_R _ _ _ (refOf ((Term.string "RiddleMill" e.1).eval #[] s none [] s)) s
    rw [ha']
    exact vk_R.of (hts _ (List.mem_append_right _ q1)) ha
  have l1 := hts (Cond.laysStatic "java/lang/Throwable" "UNASSIGNED_STACK" "[Ljava/lang/StackTraceElement;") (lin 539 rfl)
  have l2 := hts (Cond.laysStatic "java/lang/Throwable" "SUPPRESSED_SENTINEL" "Ljava/util/List;") (lin 541 rfl)
  have r1 := hs (Cond.isRef (.static "java/lang/Throwable" "UNASSIGNED_STACK" "[Ljava/lang/StackTraceElement;")) (by decide +kernel)
  have r2 := hs (Cond.isRef (.static "java/lang/Throwable" "SUPPRESSED_SENTINEL" "Ljava/util/List;")) (by decide +kernel)
  have hLh : gLh (gA h9 s.heap.size) s := ⟨gLq.of l1 r1 hA, gLq.of l2 r2 hA⟩
  have Z1 := va_Zqof l1 (hts _ (lin 10 rfl)) r1 hA
  have Z2 := va_Zqof l2 (hts _ (lin 10 rfl)) r2 hA
  have hno : gNo s := gv_no (hs _ (by decide +kernel))
  have hNw : ∀ w ∈ gNW, va_Nw w s := fun w h => va_Nw.of (gv_nw w h).2 (hts w (List.mem_append_right _ (gv_nw w h).1))
  have hSt : gSt ((dC, dI), [(cB, FieldType.byte), (cL, FieldType.long), (cI, FieldType.int)], s.heap.size, tW, tF, sa, b, L, xs) (gA h9 s.heap.size) s := ⟨⟨Nat.le_refl _, va_T_lt TW, va_T_lt TF, hbl⟩, ⟨ZW, TW⟩, ⟨ZF, TF⟩, TS, hsa, ⟨Z1, Z2⟩, hno⟩
  have hl := lv_entry ([.ref b]) (n := 7) (Nat.le_of_ble_eq_true rfl)
  rw [lg_entry_eq]
  have K := lw_begin l htl ((dC, dI), [(cB, FieldType.byte), (cL, FieldType.long), (cI, FieldType.int)], s.heap.size, tW, tF, sa, b, L, xs) cB cL cI List.mem_cons_self (List.mem_cons_of_mem _ List.mem_cons_self) (List.mem_cons_of_mem _ (List.mem_cons_of_mem _ List.mem_cons_self)) (va_T_lt TW) (va_T_lt TF) hbl hL (fun z => va_T_ty (t := b) TS (by have z' : b = tW := z; rw [z']; exact TW)) (fun z => va_T_len (t := tW) TW (by have z' : tF = tW := z; rw [← z']; exact TF)) lw_Z lw_exit p e s m #[Value.ref b] below meth c ⟨hx, hb, hml, hown, hw, hK, hlocks, hr, hnm, hNw, hSt, fun a x h => by cases h⟩ s.heap [] (fun a x h => by cases h) (fun a x h => by cases h) va_S.rf _ ⟨hl.1, hl.2.1, fun q hq => hl.2.2 q hq⟩
  intro T hT X
  obtain ⟨t, a1, b1⟩ := K T hT X
  exact ⟨t, a1, b1 hLh⟩
