def ushF (x y : Int32) : Int32 := (x.toUInt32 >>> (y.toUInt32 &&& Int32.toUInt32 31)).toInt32
def bc1 (x : Int32) : Int32 := x - (ushF x 1 &&& 1431655765)
def bc2 (x : Int32) : Int32 := (x &&& 858993459) + (ushF x 2 &&& 858993459)
def bc3 (x : Int32) : Int32 := (x + ushF x 4) &&& 252645135
def bc4 (x : Int32) : Int32 := x + ushF x 8
def bc5 (x : Int32) : Int32 := (x + ushF x 16) &&& 63
def bcF (x : Int32) : Int32 := bc5 (bc4 (bc3 (bc2 (bc1 x))))
def popF : Nat → Nat → Nat
  | 0, _ => 0
  | b + 1, n => n % 2 + popF b (n / 2)
theorem bcF_small : ∀ n : Nat, n < 64 → bcF (nI n) = nI (popF 6 n) := by decide +kernel
set_option maxRecDepth 100000 in
theorem c_JI_bitCount (l : Launch) (g : gG) (x : Int32) (h : gH) : gC l g mJI_bitCount gr0 [.int x] h (fun r h' => r = some (.int (bcF x)) ∧ h' = h) := by
  refine gC_of (lv0 := [some (.int x)]) (by decide +kernel) (Nat.le_of_ble_eq_true rfl) (fun q hq => hq) ⟨rfl, rfl⟩ ?_
  refine gw_ev (T := gT0) 60 [] gRt_m (gTO_0 _ _ _ ⟨Nat.le_refl _, Nat.le_refl _⟩) ?_
  simp only [vc_i, vc_l, vc_r, vc_n, Nat.succ_ne_self, gSd_s, gEd_s, gEd_0, gEd_B, gB_t, gB_f, gGo_c, gGo_n, gAll_n, gAll_c, gwK_s, gCT, gCF, gSet, gSet2, gKill, gTw, gTs, gLs, List.map_cons, List.map_nil, fv0, fv1, fv2, fv3, List.getElem?_cons_zero, List.getElem?_cons_succ, List.set_cons_zero, List.set_cons_succ, List.not_mem_nil, List.mem_cons, Option.toList_some, Option.toList_none, List.cons_append, List.nil_append, if_false, if_true, true_and, and_true, forall_const, true_implies, false_implies, or_false, false_or, not_true_eq_false, not_false_eq_true, and_false, false_and, implies_true, Nat.reduceAdd, Nat.reduceEqDiff, Nat.reduceLT, ↓reduceIte, cls_JI_bitCount, st_iload_n, st_iconst, st_iushr, st_ldc_w, st_iand, st_isub, st_istore_n, st_iadd, st_bipush, st_ireturn, (show mJI_bitCount.2.2.1 = 1 from rfl), ki_JI_265, ki_JI_266, ki_JI_267, dJI_bitCount_0, dJI_bitCount_1, dJI_bitCount_2, ic_1, dJI_bitCount_3, dJI_bitCount_4, dJI_bitCount_7, dJI_bitCount_8, dJI_bitCount_9, dJI_bitCount_10, dJI_bitCount_11, dJI_bitCount_14, dJI_bitCount_15, dJI_bitCount_16, ic_2, dJI_bitCount_17, dJI_bitCount_18, dJI_bitCount_21, dJI_bitCount_22, dJI_bitCount_23, dJI_bitCount_24, dJI_bitCount_25, dJI_bitCount_26, ic_4, dJI_bitCount_27, dJI_bitCount_28, dJI_bitCount_29, dJI_bitCount_32, dJI_bitCount_33, dJI_bitCount_34, dJI_bitCount_35, dJI_bitCount_36, bi_8, dJI_bitCount_38, dJI_bitCount_39, dJI_bitCount_40, dJI_bitCount_41, dJI_bitCount_42, dJI_bitCount_43, bi_16, dJI_bitCount_45, dJI_bitCount_46, dJI_bitCount_47, dJI_bitCount_48, dJI_bitCount_49, bi_63, dJI_bitCount_51, dJI_bitCount_52]
  exact ⟨rfl, rfl⟩
