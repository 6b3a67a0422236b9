-- needs 10 11 12 13 14 15 16 17 18 18d 21 30 31 40 50 53 60 62
def aboutF (n s c w : Int32) : Int32 := if w.toInt = 0 then n else if w.toInt = 1 then s else if w.toInt = 2 then c else -1
set_option maxRecDepth 100000 in
theorem c_RF_about (l : Launch) (g : gG) (o : Nat) (n s c w : Int32) (fs : List Value) (h : gH) (ho : h o = some (.inr (6, fs))) (hlen : fs.length = 33) (f2 : fs[2]? = some (.int n)) (f3 : fs[3]? = some (.int s)) (f6 : fs[6]? = some (.int c)) : gC l g mRF_about (gr 0) [.ref o, .int w] h (fun r h' => r = some (.int (aboutF n s c w)) ∧ h' = gup h o (.inr (6, fs.set 1 (.int 0)))) := by
  have s2 : ∀ v : Value, (fs.set 1 v)[2]? = fs[2]? := fun v => List.getElem?_set_ne (by omega)
  have s3 : ∀ v : Value, (fs.set 1 v)[3]? = fs[3]? := fun v => List.getElem?_set_ne (by omega)
  have s6 : ∀ v : Value, (fs.set 1 v)[6]? = fs[6]? := fun v => List.getElem?_set_ne (by omega)
  refine gC_of (lv0 := [some (.ref o), some (.int w)]) (by decide +kernel) (Nat.le_of_ble_eq_true rfl) (fun q hq => hq) ⟨rfl, rfl⟩ ?_
  refine gw_ev (T := gT0) 60 [] gRt_m (gTO_0 _ _ _ ⟨Nat.le_refl _, Nat.le_refl _⟩) ?_
  simp only [vc_i, vc_l, vc_r, vc_n, Nat.succ_ne_self, gSd_s, gEd_s, gEd_0, gEd_B, gB_t, gB_f, gGo_c, gGo_n, gAll_n, gAll_c, gwK_s, gCT, gCF, gSet, gSet2, gKill, gTw, gTs, gLs, List.map_cons, List.map_nil, fv0, fv1, fv2, fv3, List.getElem?_cons_zero, List.getElem?_cons_succ, List.set_cons_zero, List.set_cons_succ, List.not_mem_nil, List.mem_cons, Option.toList_some, Option.toList_none, List.cons_append, List.nil_append, if_false, if_true, true_and, and_true, forall_const, true_implies, false_implies, or_false, false_or, not_true_eq_false, not_false_eq_true, and_false, false_and, implies_true, Nat.reduceAdd, Nat.reduceEqDiff, Nat.reduceLT, ↓reduceIte, cls_RF_about, st_aload_n, st_iconst, st_putfield, st_iload_n, st_tableswitch, st_getfield, st_ireturn, (show mRF_about.2.2.1 = 2 from rfl), fp_RF_about_94, gF_RF_85, gF_RF_88, gF_RF_101, dRF_about_0, dRF_about_1, ic_0, dRF_about_2, dRF_about_5, dRF_about_6, tg_6_41, tz_6_41, tg_6_26, tz_6_26, tg_6_31, tz_6_31, tg_6_36, tz_6_36, dRF_about_32, dRF_about_33, dRF_about_36, dRF_about_37, dRF_about_38, dRF_about_41, dRF_about_42, dRF_about_43, dRF_about_46, dRF_about_47, ic_m1, dRF_about_48, ho, hlen, gup_s, s2, s3, s6, f2, f3, f6, Int.reduceAdd]
  refine ⟨fit_i _, by decide, fun z => ⟨rfl, ?_⟩, fun z => ⟨rfl, ?_⟩, fun z => ⟨rfl, ?_⟩, fun z => ⟨rfl, ?_⟩⟩
  · unfold aboutF
    rw [if_neg (by omega), if_neg (by omega), if_neg (by omega)]
  · unfold aboutF
    rw [if_pos z]
  · unfold aboutF
    rw [if_neg (by omega), if_pos z]
  · unfold aboutF
    rw [if_neg (by omega), if_neg (by omega), if_pos z]
