-- the constructor of the mill
def noN (x : Int32) : Nat := if x < 3 then 3 else if 5 < x then 5 else x.toNatClampNeg
def moN (N : Nat) : Nat := if N = 5 then 2 else 3
def koN (N : Nat) (y : Int32) : Nat := if y < 1 then 1 else if nI (moN N) < y then moN N else y.toNatClampNeg
theorem clampF {x lo hi : Int32} {a b : Nat} (ha : lo = nI a) (hb : hi = nI b) (hab : a ≤ b) (hb9 : b < 2 ^ 31) : maxF lo (minF hi x) = nI (if x < lo then a else if hi < x then b else x.toNatClampNeg) ∧ a ≤ (if x < lo then a else if hi < x then b else x.toNatClampNeg) ∧ (if x < lo then a else if hi < x then b else x.toNatClampNeg) ≤ b := by
  subst ha
  subst hb
  unfold maxF minF
  by_cases c1 : x < nI a
  · rw [if_pos c1]
    have c2 : x < nI b := Int32.lt_of_lt_of_le c1 (nI_le hab hb9)
    have c3 : ¬ nI a < x := Int32.lt_asymm c1
    rw [if_pos c2, if_neg c3]
    exact ⟨rfl, Nat.le_refl _, hab⟩
  · rw [if_neg c1]
    have h0 : ¬ x < 0 := fun z => c1 (Int32.lt_of_lt_of_le z (nI_pos' (by omega)))
    obtain ⟨j, hj, rfl⟩ := nI_of h0
    have e1 : ¬ j < a := fun z => c1 (nI_lt z (by omega))
    by_cases c2 : nI b < nI j
    · rw [if_pos c2]
      have e2 : b < j := (nI_ltI hb9 hj).mp c2
      have c4 : ¬ nI j < nI b := nI_nlt (by omega) hj
      rw [if_neg c4]
      refine ⟨?_, hab, Nat.le_refl _⟩
      by_cases c5 : nI a < nI b
      · rw [if_pos c5]
      · rw [if_neg c5]
        have : ¬ a < b := fun z => c5 (nI_lt z hb9)
        rw [show a = b by omega]
    · rw [if_neg c2]
      have e2 : ¬ b < j := fun z => c2 (nI_lt z hj)
      rw [nI_clamp hj]
      refine ⟨?_, by omega, by omega⟩
      by_cases c4 : nI j < nI b
      · rw [if_pos c4]
        by_cases c5 : nI a < nI j
        · rw [if_pos c5]
        · rw [if_neg c5]
          have : ¬ a < j := fun z => c5 (nI_lt z hj)
          rw [show a = j by omega]
      · rw [if_neg c4]
        have : ¬ j < b := fun z => c4 (nI_lt z hb9)
        have ejb : b = j := by omega
        rw [ejb]
        by_cases c5 : nI a < nI j
        · rw [if_pos c5]
        · rw [if_neg c5]
          have : ¬ a < j := fun z => c5 (nI_lt z hj)
          rw [show a = j by omega]
theorem noN_eq (x : Int32) : maxF 3 (minF 5 x) = nI (noN x) ∧ 3 ≤ noN x ∧ noN x ≤ 5 := clampF (a := 3) (b := 5) rfl rfl (by decide) (by decide)
theorem koN_eq (N : Nat) (y : Int32) : maxF 1 (minF (nI (moN N)) y) = nI (koN N y) ∧ 1 ≤ koN N y ∧ koN N y ≤ moN N := clampF (a := 1) (b := moN N) rfl rfl (by unfold moN; split <;> decide) (by unfold moN; split <;> decide)
theorem okNK_new (x y : Int32) : okNK (noN x) (koN (noN x) y) := by
  obtain ⟨-, a1, a2⟩ := noN_eq x
  obtain ⟨-, b1, b2⟩ := koN_eq (noN x) y
  refine ⟨a1, a2, b1, ?_, fun h => ?_⟩
  · have : moN (noN x) ≤ 3 := by unfold moN; split <;> decide
    omega
  · have : moN (noN x) = 2 := if_pos h
    omega
def keep (k k' : gH) (o : Nat) : Prop := ∀ a, a ≠ o → k a ≠ none → k' a = k a
theorem keep_t {k1 k2 k3 : gH} {o : Nat} (h1 : keep k1 k2 o) (h2 : keep k2 k3 o) : keep k1 k3 o := fun a n hl => by
  have e := h1 a n hl
  rw [h2 a n (by rw [e]; exact hl), e]
/-- a block: a new object, what its constructor made, then a word written into o -/
def blk (g : gG) (h1 : gH) (o : Nat) (A : Nat → Nat) (m : Nat) (h2 : gH) : Prop := apU A m ∧ (∀ i, i < m → h1 (A i) = none ∧ gsz g ≤ A i ∧ A i ≠ o) ∧ ∀ q, q ≠ o → (∀ i, i < m → q ≠ A i) → h2 q = h1 q
theorem blk_of {g : gG} {h1 h2 : gH} {o q m : Nat} {A : Nat → Nat} {x0 w x : va_E} (hm : 0 < m) (ho : h1 o = some w) (hq : h1 q = none) (hz : gsz g ≤ q) (hA0 : A 0 = q) (hN : newA g (gup h1 q x0) A m h2) : h2 o = some w ∧ blk g h1 o A m (gup h2 o x) := by
  obtain ⟨n1, n2, n3⟩ := hN
  have qo : q ≠ o := fun z => by rw [z, ho] at hq; cases hq
  have f : ∀ i, i < m → h1 (A i) = none ∧ gsz g ≤ A i ∧ A i ≠ o := fun i hi => by
    cases i with
    | zero => rw [hA0]; exact ⟨hq, hz, qo⟩
    | succ i =>
      obtain ⟨p1, p2⟩ := n2 (i + 1) (by omega) hi
      have e : A (i + 1) ≠ q := fun z => by rw [z, gup_s] at p1; cases p1
      rw [gup_n _ _ e] at p1
      exact ⟨p1, p2, fun z => by rw [z, ho] at p1; cases p1⟩
  refine ⟨?_, n1, f, fun p hp hpa => ?_⟩
  · rw [n3 o (fun i hi => Ne.symm (f i hi).2.2), gup_n _ _ (Ne.symm qo)]
    exact ho
  · have c : p ≠ q := fun z => hpa 0 hm (z.trans hA0.symm)
    rw [gup_n _ _ hp, n3 p hpa, gup_n _ _ c]
theorem blk_k {g : gG} {h1 h2 : gH} {o m : Nat} {A : Nat → Nat} (B : blk g h1 o A m h2) : keep h1 h2 o := fun a n hl => B.2.2 a n (fun i hi z => hl (by rw [z]; exact (B.2.1 i hi).1))
theorem blk_n {g : gG} {h1 h2 : gH} {o m : Nat} {A : Nat → Nat} (B : blk g h1 o A m h2) {a : Nat} (hl : h1 a ≠ none) : ∀ i, i < m → a ≠ A i := fun i hi z => hl (by rw [z]; exact (B.2.1 i hi).1)
def cat (m : Nat) (A B : Nat → Nat) : Nat → Nat := fun i => if i < m then A i else B (i - m)
theorem cat_ne {m n x : Nat} {A B : Nat → Nat} (h1 : ∀ i, i < m → x ≠ A i) (h2 : ∀ i, i < n → x ≠ B i) : ∀ i, i < m + n → x ≠ cat m A B i := fun i hi => by
  unfold cat
  split
  · exact h1 i (by assumption)
  · exact h2 (i - m) (by omega)
theorem cat_ap {m n : Nat} {A B : Nat → Nat} (h1 : apU A m) (h2 : apU B n) (h3 : ∀ i, i < m → ∀ j, j < n → A i ≠ B j) : apU (cat m A B) (m + n) := fun i j hi hj => by
  unfold cat
  by_cases c : i < m <;> by_cases d : j < m <;> simp only [c, d, if_true, if_false]
  · exact h1 i j c d
  · exact fun z => absurd z (h3 i c (j - m) (by omega))
  · exact fun z => absurd z.symm (h3 j d (i - m) (by omega))
  · intro z
    have := h2 (i - m) (j - m) (by omega) (by omega) z
    omega
theorem cat_all {P : Nat → Prop} {m n : Nat} {A B : Nat → Nat} (h1 : ∀ i, i < m → P (A i)) (h2 : ∀ i, i < n → P (B i)) : ∀ i, i < m + n → P (cat m A B i) := fun i hi => by
  unfold cat
  split
  · exact h1 i (by assumption)
  · exact h2 (i - m) (by omega)
theorem live_s {h : gH} {a : Nat} {x : va_E} (e : h a = some x) : h a ≠ none := fun z => by rw [z] at e; cases e
theorem live_CL {cI : ClassId} {A : Nat → Nat} {n : Nat} {cs : Nat → Int32} {h : gH} (e : isCL cI (A 0) (A 1) n cs h) : ∀ i, i < 2 → h (A i) ≠ none
  | 0, _ => live_s e.1
  | 1, _ => live_s e.2.1
theorem live_WO {cI : ClassId} {N K : Nat} {A : Nat → Nat} {h : gH} (e : isWO cI N K A h) : ∀ i, i < 7 → h (A i) ≠ none := by
  obtain ⟨_, _, _, _, _, _, _, _, _, _, e0, e1, e2, e3, e4, e5, e6, _⟩ := e
  exact fun i hi => match i, hi with
    | 0, _ => live_s e0
    | 1, _ => live_s e1
    | 2, _ => live_s e2
    | 3, _ => live_s e3
    | 4, _ => live_s e4
    | 5, _ => live_s e5
    | 6, _ => live_s e6
theorem live_PR {cI : ClassId} {N K : Nat} {A : Nat → Nat} {t : PS} {h : gH} (e : isPR cI N K A t h) : ∀ i, i < 6 → h (A i) ≠ none
  | 0, _ => live_s e.2.2.2.2.2
  | 1, _ => live_s e.1
  | 2, _ => live_s e.2.1
  | 3, _ => live_s e.2.2.1
  | 4, _ => live_s e.2.2.2.1
  | 5, _ => live_s e.2.2.2.2.1
theorem live_MA {cI : ClassId} {N K n : Nat} {A : Nat → Nat} {t : MS} {cs : Nat → Int32} {h : gH} (e : isMA cI N K A (A 3) t h) (f : isCL cI (A 3) (A 4) n cs h) : ∀ i, i < 5 → h (A i) ≠ none
  | 0, _ => live_s e.2.2
  | 1, _ => live_s e.1
  | 2, _ => live_s e.2.1
  | 3, _ => live_s f.1
  | 4, _ => live_s f.2.1
theorem live_SP {cL cI : ClassId} {A : Nat → Nat} {t : SS} {h : gH} (e : isSP cL cI A t h) : ∀ i, i < 5 → h (A i) ≠ none
  | 0, _ => live_s e.2.2.2.2
  | 1, _ => live_s e.1
  | 2, _ => live_s e.2.1
  | 3, _ => live_s e.2.2.1
  | 4, _ => live_s e.2.2.2.1
set_option maxRecDepth 100000 in
set_option maxHeartbeats 4000000 in
theorem c_CL_initA (l : Launch) (g : gG) (cI : ClassId) (hcI : (cI, FieldType.int) ∈ g.2.1) (o : Nat) (h : gH) (ho : h o = some (.inr (0, [.null, .int 0]))) : gC l g mCL_init (grN 1 1 30) [.ref o] h (fun r h' => r = none ∧ ∃ A : Nat → Nat, A 0 = o ∧ newA g h A 2 h' ∧ isCL cI (A 0) (A 1) 0 (fun _ => 0) h') := by
  refine gC_of (mc := 1) (ms := 30) (lv0 := [some (.ref o)]) (by decide +kernel) (Nat.le_of_ble_eq_true rfl) (fun q hq => hq) ⟨rfl, rfl⟩ ?_
  have O0 := ho
  have G0 : grow h o (gsz g) 0 (fun _ => 0) (fun _ => .inr (0, [])) h := grow_0
  refine gw_ev (T := gT0) 60 [] gRt_f (gTO_0 _ _ _ ⟨Nat.le_of_ble_eq_true rfl, Nat.le_of_ble_eq_true rfl⟩) ?_
  simp only [vc_i, vc_l, vc_r, vc_n, Nat.succ_ne_self, gSd_s, gEd_s, gEd_0, gEd_B, gB_t, gB_f, gGo_c, gGo_n, gAll_n, gAll_c, gwK_s, gCT, gCF, gSet, gSet2, gKill, gTw, gTs, gLs, List.map_cons, List.map_nil, fv0, fv1, fv2, fv3, List.getElem?_cons_zero, List.getElem?_cons_succ, List.set_cons_zero, List.set_cons_succ, List.not_mem_nil, List.mem_cons, Option.toList_some, Option.toList_none, List.cons_append, List.nil_append, if_false, if_true, true_and, and_true, forall_const, true_implies, false_implies, or_false, false_or, not_true_eq_false, not_false_eq_true, and_false, false_and, implies_true, Nat.reduceAdd, Nat.reduceEqDiff, Nat.reduceLT, ↓reduceIte, cls_CL_init, st_aload_n, st_invokespecial, st_bipush, st_newarray, st_putfield, st_return_, (show mCL_init.2.2.1 = 1 from rfl), fp_CL_init_9, dCL_init_0, dCL_init_1, dCL_init_4, dCL_init_5, bi_30, dCL_init_7, dCL_init_9, dCL_init_12]
  refine gw_obj dCL_init_1 wl_CL_3 wi_JO_init wc_JO_init ⟨by decide, Nat.le_of_ble_eq_true rfl⟩ ?_
  refine gw_ev (T := gT0) 60 [] gRt_f (gTO_0 _ _ _ ⟨Nat.le_of_ble_eq_true rfl, Nat.le_of_ble_eq_true rfl⟩) ?_
  simp only [vc_i, vc_l, vc_r, vc_n, Nat.succ_ne_self, gSd_s, gEd_s, gEd_0, gEd_B, gB_t, gB_f, gGo_c, gGo_n, gAll_n, gAll_c, gwK_s, gCT, gCF, gSet, gSet2, gKill, gTw, gTs, gLs, List.map_cons, List.map_nil, fv0, fv1, fv2, fv3, List.getElem?_cons_zero, List.getElem?_cons_succ, List.set_cons_zero, List.set_cons_succ, List.not_mem_nil, List.mem_cons, Option.toList_some, Option.toList_none, List.cons_append, List.nil_append, if_false, if_true, true_and, and_true, forall_const, true_implies, false_implies, or_false, false_or, not_true_eq_false, not_false_eq_true, and_false, false_and, implies_true, Nat.reduceAdd, Nat.reduceEqDiff, Nat.reduceLT, ↓reduceIte, cls_CL_init, st_aload_n, st_invokespecial, st_bipush, st_newarray, st_putfield, st_return_, (show mCL_init.2.2.1 = 1 from rfl), fp_CL_init_9, dCL_init_0, dCL_init_1, dCL_init_4, dCL_init_5, bi_30, dCL_init_7, dCL_init_9, dCL_init_12]
  refine gw_newa (N := 30) (a0 := (30, .inl (fun _ => 0))) dCL_init_7 rfl (fun C z => by cases z) hcI wA_int (fun cA => rfl) (by decide) (by decide) (by decide) (Nat.le_of_ble_eq_true rfl) (Nat.le_of_ble_eq_true rfl) fun q0 hq0 hz0 => ?_
  have n0 : o ≠ q0 := fun e => by rw [← e, O0] at hq0; cases hq0
  refine gw_ev (T := gT0) 60 [12] gRt_f (gTO_0 _ _ _ ⟨Nat.le_of_ble_eq_true rfl, Nat.le_of_ble_eq_true rfl⟩) ?_
  simp only [vc_i, vc_l, vc_r, vc_n, Nat.succ_ne_self, gSd_s, gEd_s, gEd_0, gEd_B, gB_t, gB_f, gGo_c, gGo_n, gAll_n, gAll_c, gwK_s, gCT, gCF, gSet, gSet2, gKill, gTw, gTs, gLs, List.map_cons, List.map_nil, fv0, fv1, fv2, fv3, List.getElem?_cons_zero, List.getElem?_cons_succ, List.set_cons_zero, List.set_cons_succ, List.not_mem_nil, List.mem_cons, Option.toList_some, Option.toList_none, List.cons_append, List.nil_append, if_false, if_true, true_and, and_true, forall_const, true_implies, false_implies, or_false, false_or, not_true_eq_false, not_false_eq_true, and_false, false_and, implies_true, Nat.reduceAdd, Nat.reduceEqDiff, Nat.reduceLT, ↓reduceIte, cls_CL_init, st_aload_n, st_invokespecial, st_bipush, st_newarray, st_putfield, st_return_, (show mCL_init.2.2.1 = 1 from rfl), fp_CL_init_9, dCL_init_0, dCL_init_1, dCL_init_4, dCL_init_5, bi_30, dCL_init_7, dCL_init_9, dCL_init_12, gup_n _ _ n0, O0]
  refine ⟨⟨by show 0 < 2; decide, rfl, rfl⟩, ?_⟩
  obtain ⟨H1, e1⟩ : ∃ H, H = gup (gup h q0 (.inl (cI, 30, .inl (fun _ => 0)))) o (.inr (0, [.ref q0, .int 0])) := ⟨_, rfl⟩
  rw [← e1]
  have O1 : H1 o = some (.inr (0, [.ref q0, .int 0])) := by rw [e1]; exact gup_s _ _ _
  have G1 := grow_s (x := .inr (0, [.ref q0, .int 0])) (y := .inl (cI, 30, .inl (fun _ => 0))) G0 hq0 hz0 O0
  rw [← e1] at G1
  refine gw_ev (T := gT0) 60 [] gRt_m (gTO_0 _ _ _ ⟨Nat.le_of_ble_eq_true rfl, Nat.le_of_ble_eq_true rfl⟩) ?_
  simp only [vc_i, vc_l, vc_r, vc_n, Nat.succ_ne_self, gSd_s, gEd_s, gEd_0, gEd_B, gB_t, gB_f, gGo_c, gGo_n, gAll_n, gAll_c, gwK_s, gCT, gCF, gSet, gSet2, gKill, gTw, gTs, gLs, List.map_cons, List.map_nil, fv0, fv1, fv2, fv3, List.getElem?_cons_zero, List.getElem?_cons_succ, List.set_cons_zero, List.set_cons_succ, List.not_mem_nil, List.mem_cons, Option.toList_some, Option.toList_none, List.cons_append, List.nil_append, if_false, if_true, true_and, and_true, forall_const, true_implies, false_implies, or_false, false_or, not_true_eq_false, not_false_eq_true, and_false, false_and, implies_true, Nat.reduceAdd, Nat.reduceEqDiff, Nat.reduceLT, ↓reduceIte, cls_CL_init, st_aload_n, st_invokespecial, st_bipush, st_newarray, st_putfield, st_return_, (show mCL_init.2.2.1 = 1 from rfl), fp_CL_init_9, dCL_init_0, dCL_init_1, dCL_init_4, dCL_init_5, bi_30, dCL_init_7, dCL_init_9, dCL_init_12]
  exact ⟨rfl, anO o _, rfl, grow_A G1, O1, (G1.1 0 (by decide)).1, by decide, fun _ => okc_0⟩
