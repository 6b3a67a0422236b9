-- needs 10 11 12 13 14 15 16 17 18 18d 19 21 30 31 40 50 53 60 61 62 63 64 65 66 67 68 73 80 81 82 83
def sumF (f : Nat → Nat) : Nat → Nat
  | 0 => 0
  | m + 1 => sumF f m + f m
theorem sumF_upd (f : Nat → Nat) (t v : Nat) : ∀ m, sumF (fun i => if i = t then v else f i) m + (if t < m then f t else 0) = sumF f m + (if t < m then v else 0) := by
  intro m
  induction m with
  | zero => rfl
  | succ m ih =>
    show sumF _ m + (if m = t then v else f m) + _ = sumF f m + f m + _
    by_cases h1 : m = t
    · subst h1
      rw [if_pos rfl, if_pos (by omega), if_pos (by omega)]
      rw [if_neg (by omega), if_neg (by omega)] at ih
      omega
    · rw [if_neg h1]
      by_cases h2 : t < m
      · rw [if_pos (by omega), if_pos (by omega)]
        rw [if_pos h2, if_pos h2] at ih
        omega
      · rw [if_neg (by omega), if_neg (by omega)]
        rw [if_neg h2, if_neg h2] at ih
        omega
theorem sumF_le (f : Nat → Nat) (b : Nat) : ∀ m, (∀ i, i < m → f i ≤ b) → sumF f m ≤ m * b := by
  intro m
  induction m with
  | zero => intro _; exact Nat.zero_le _
  | succ m ih =>
    intro h
    have h1 := ih (fun i hi => h i (by omega))
    have h2 := h m (by omega)
    show sumF f m + f m ≤ _
    rw [Nat.succ_mul]
    omega
def pcN (x : Nat) : Nat := x % 2 + x / 2 % 2 + x / 4 % 2 + x / 8 % 2 + x / 16 % 2
theorem pcN_le (x : Nat) : pcN x ≤ 5 := by unfold pcN; omega
theorem clr_all : ∀ x : Fin 32, ∀ p : Fin 5, ¬ (nI x.val >>> (nI p.val &&& 31)) &&& 1 = 0 → ∃ y : Fin 32, nI x.val &&& ((1 <<< (nI p.val &&& 31)) ^^^ -1) = nI y.val ∧ pcN y.val + 1 = pcN x.val := by decide +kernel
def okG (gd : Nat → Int32) : Prop := ∀ t, t < 15 → ∃ x, x < 32 ∧ gd t = nI x
def msG (gd : Nat → Int32) : Nat := sumF (fun t => pcN (gd t).toNatClampNeg) 15
theorem msG_le (gd : Nat → Int32) : msG gd ≤ 75 := sumF_le _ 5 15 (fun i _ => pcN_le _)
theorem clrG {gd : Nat → Int32} {t p : Nat} (h : okG gd) (ht : t < 15) (hp : p < 5) (hb : ¬ (gd t >>> (nI p &&& 31)) &&& 1 = 0) : okG (upd gd t (gd t &&& ((1 <<< (nI p &&& 31)) ^^^ -1))) ∧ msG (upd gd t (gd t &&& ((1 <<< (nI p &&& 31)) ^^^ -1))) + 1 = msG gd := by
  obtain ⟨x, hx, ex⟩ := h t ht
  rw [ex] at hb
  obtain ⟨y, ey, hy⟩ := clr_all ⟨x, hx⟩ ⟨p, hp⟩ hb
  have e2 : gd t &&& ((1 <<< (nI p &&& 31)) ^^^ -1) = nI y.val := by rw [ex]; exact ey
  rw [e2]
  have hy2 : pcN y.val + 1 = pcN x := hy
  refine ⟨fun u hu => ?_, ?_⟩
  · by_cases h1 : u = t
    · rw [h1]
      exact ⟨y.val, y.isLt, if_pos rfl⟩
    · obtain ⟨z, hz, ez⟩ := h u hu
      exact ⟨z, hz, by rw [← ez]; exact if_neg h1⟩
  · have h1 := sumF_upd (fun u => pcN (gd u).toNatClampNeg) t (pcN y.val) 15
    rw [if_pos ht, if_pos ht] at h1
    have h2 : (fun i => if i = t then pcN y.val else (fun u => pcN (gd u).toNatClampNeg) i) = (fun u => pcN (upd gd t (nI y.val) u).toNatClampNeg) := by
      funext i
      by_cases h3 : i = t
      · rw [if_pos h3, h3]
        have h4 : upd gd t (nI y.val) t = nI y.val := if_pos rfl
        have h5 := y.isLt
        rw [h4, nI_clamp (by omega)]
      · have h4 : upd gd t (nI y.val) i = gd i := if_neg h3
        rw [if_neg h3, h4]
    rw [h2] at h1
    have h6 : pcN (gd t).toNatClampNeg = pcN x := by rw [ex, nI_clamp (by omega)]
    rw [h6] at h1
    show sumF _ 15 + 1 = sumF _ 15
    omega
theorem spP_mem {Q : Nat → Nat → Bool} {t a b : Nat} : ∀ m p, spP Q t m p = some (a, b) → a = t ∧ p ≤ b ∧ b < p + m ∧ Q a b = true := by
  intro m
  induction m with
  | zero => intro p h; cases h
  | succ m ih =>
    intro p h
    unfold spP at h
    by_cases h1 : Q t p = true
    · rw [if_pos h1] at h
      cases h
      exact ⟨rfl, Nat.le_refl _, by omega, h1⟩
    · rw [if_neg h1] at h
      obtain ⟨q1, q2, q3, q4⟩ := ih (p + 1) h
      exact ⟨q1, by omega, by omega, q4⟩
theorem spT_mem {Q : Nat → Nat → Bool} {n a b : Nat} : ∀ m t, spT Q n m t = some (a, b) → t ≤ a ∧ a < t + m ∧ a % 5 < n ∧ b < n ∧ Q a b = true := by
  intro m
  induction m with
  | zero => intro t h; cases h
  | succ m ih =>
    intro t h
    unfold spT at h
    by_cases h1 : t % 5 < n
    · rw [if_pos h1] at h
      cases h2 : spP Q t n 0 with
      | some q =>
        rw [h2] at h
        have h3 : some q = some (a, b) := h
        cases h3
        obtain ⟨q1, q2, q3, q4⟩ := spP_mem n 0 h2
        subst q1
        exact ⟨Nat.le_refl _, by omega, h1, by omega, q4⟩
      | none =>
        rw [h2] at h
        obtain ⟨q1, q2, q3⟩ := ih (t + 1) h
        exact ⟨by omega, by omega, q3⟩
    · rw [if_neg h1] at h
      obtain ⟨q1, q2, q3⟩ := ih (t + 1) h
      exact ⟨by omega, by omega, q3⟩
def downP (w v : WK) : Prop := okG v.1 ∧ msG v.1 + 1 = msG w.1 ∧ v.2.2 = w.2.2 + 1
theorem stpF_down {n K rule k : Nat} {cl : Nat → Int32} {w v : WK} (hn : n ≤ 5) (hK : K ≤ 3) (hw : okG w.1) (h : stpF n K cl rule k w = some v) : downP w v := by
  unfold stpF at h
  cases h1 : spT (tqF w.1 n cl rule k) n (5 * K) 0 with
  | none => rw [h1] at h; cases h
  | some q =>
    rw [h1] at h
    obtain ⟨a, b⟩ := q
    have h2 : some (wkA rule k w (a, b)) = some v := h
    cases h2
    obtain ⟨q1, q2, q3, q4, q5⟩ := spT_mem _ _ h1
    have hq : ¬ (w.1 a >>> (nI b &&& 31)) &&& 1 = 0 := by
      unfold tqF at q5
      rw [Bool.and_eq_true] at q5
      exact of_decide_eq_true q5.1
    obtain ⟨r1, r2⟩ := clrG hw (by omega) (by omega) hq
    exact ⟨r1, r2, rfl⟩
theorem sdK_down {n K rule : Nat} {cl : Nat → Int32} {w v : WK} (hn : n ≤ 5) (hK : K ≤ 3) (hw : okG w.1) : ∀ m k, sdK n K cl rule w m k = some v → downP w v := by
  intro m
  induction m with
  | zero => intro k h; cases h
  | succ m ih =>
    intro k h
    unfold sdK at h
    by_cases h1 : isOfB (nI rule) (cl (6 * k)) (cl (6 * k + 5)) = true
    · rw [if_pos h1] at h
      cases h2 : stpF n K cl rule k w with
      | some u =>
        rw [h2] at h
        have h3 : some u = some v := h
        cases h3
        exact stpF_down hn hK hw h2
      | none =>
        rw [h2] at h
        exact ih (k + 1) h
    · rw [if_neg h1] at h
      exact ih (k + 1) h
theorem sdR_down {n K c : Nat} {cl : Nat → Int32} {w v : WK} (hn : n ≤ 5) (hK : K ≤ 3) (hw : okG w.1) : ∀ m rule, sdR n K c cl w m rule = some v → downP w v := by
  intro m
  induction m with
  | zero => intro rule h; cases h
  | succ m ih =>
    intro rule h
    unfold sdR at h
    by_cases h1 : rule = 3 ∨ rule = 5
    · rw [if_pos h1] at h
      cases h2 : sdK n K cl rule w c 0 with
      | some u =>
        rw [h2] at h
        have h3 : some u = some v := h
        cases h3
        exact sdK_down hn hK hw c 0 h2
      | none =>
        rw [h2] at h
        exact ih (rule + 1) h
    · rw [if_neg h1] at h
      cases h2 : stpF n K cl rule 0 w with
      | some u =>
        rw [h2] at h
        have h3 : some u = some v := h
        cases h3
        exact stpF_down hn hK hw h2
      | none =>
        rw [h2] at h
        exact ih (rule + 1) h
def wkF (n K c : Nat) (cl : Nat → Int32) : Nat → WK → WK
  | 0, w => w
  | f + 1, w => if (segF id (5 * K) 0).any (stuckQ w.1 n) = true then w else match sdF n K c cl w with
    | none => w
    | some v => wkF n K c cl f v
theorem wkF_ok {n K c : Nat} {cl : Nat → Int32} (hn : n ≤ 5) (hK : K ≤ 3) : ∀ (f : Nat) (w : WK), okG w.1 → okG (wkF n K c cl f w).1 ∧ (wkF n K c cl f w).2.2 + msG (wkF n K c cl f w).1 = w.2.2 + msG w.1 := by
  intro f
  induction f with
  | zero => intro w hw; exact ⟨hw, rfl⟩
  | succ f ih =>
    intro w hw
    unfold wkF
    by_cases h1 : (segF id (5 * K) 0).any (stuckQ w.1 n) = true
    · rw [if_pos h1]; exact ⟨hw, rfl⟩
    · rw [if_neg h1]
      cases h2 : sdF n K c cl w with
      | none => exact ⟨hw, rfl⟩
      | some v =>
        obtain ⟨q1, q2, q3⟩ := sdR_down hn hK hw 5 1 h2
        obtain ⟨r1, r2⟩ := ih v q1
        exact ⟨r1, by show (wkF n K c cl f v).2.2 + msG (wkF n K c cl f v).1 = _; omega⟩
def fillG (v : Int32) (gd : Nat → Int32) (t : Nat) : Nat → Int32 := upd gd t v
def wk0 (n : Nat) (w : WK) : WK := ((segF id 15 0).foldl (fillG ((1 <<< (nI n &&& 31)) - 1)) w.1, w.2.1, 0)
theorem fill_all (v : Int32) : ∀ (m t : Nat) (gd : Nat → Int32) (u : Nat), (segF id m t).foldl (fillG v) gd u = if t ≤ u ∧ u < t + m then v else gd u := by
  intro m
  induction m with
  | zero => intro t gd u; rw [if_neg (by omega)]; rfl
  | succ m ih =>
    intro t gd u
    show (segF id m (t + 1)).foldl (fillG v) (fillG v gd t) u = _
    rw [ih]
    by_cases h1 : u = t
    · rw [if_neg (by omega), if_pos (by omega), h1]; exact if_pos rfl
    · have h2 : fillG v gd t u = gd u := if_neg h1
      rw [h2]
      by_cases h3 : t + 1 ≤ u ∧ u < t + 1 + m
      · rw [if_pos h3, if_pos (by omega)]
      · rw [if_neg h3, if_neg (by omega)]
theorem full_n : ∀ n : Fin 6, (1 : Int32) <<< (nI n.val &&& 31) - 1 = nI (2 ^ n.val - 1) := by decide +kernel
theorem wk0_ok {n : Nat} (hn : n ≤ 5) (w : WK) : okG (wk0 n w).1 := by
  intro t ht
  have h1 : (wk0 n w).1 t = (1 <<< (nI n &&& 31)) - 1 := by
    show (segF id 15 0).foldl (fillG ((1 <<< (nI n &&& 31)) - 1)) w.1 t = _
    rw [fill_all, if_pos (by omega)]
  have h2 := full_n ⟨n, by omega⟩
  refine ⟨2 ^ n - 1, ?_, by rw [h1]; exact h2⟩
  have h3 : 2 ^ n ≤ 2 ^ 5 := Nat.pow_le_pow_right (by omega) hn
  omega
set_option maxRecDepth 100000 in
set_option maxHeartbeats 8000000 in
theorem c_RF_work (l : Launch) (g : gG) (cI : ClassId) (hcI : (cI, FieldType.int) ∈ g.2.1) (o cA gA sA n K c : Nat) (hn : 1 ≤ n ∧ n ≤ 5) (hK : K ≤ 3) (hc9 : c ≤ 30) (fs : List Value) (hlen : fs.length = 33) (cl : Nat → Int32) (hok : ∀ rule k, k < c → isOfB (nI rule) (cl (6 * k)) (cl (6 * k + 5)) = true → rule = 3 ∨ rule = 5 → okR cl k) (w0 : WK) (h H0 : gH) (hH0 : H0 = hWK cI o gA sA fs w0 h) (f2 : fs[2]? = some (.int (nI n))) (f3 : fs[3]? = some (.int (nI K))) (f6 : fs[6]? = some (.int (nI c))) (f8 : fs[8]? = some (.ref cA)) (f13 : fs[13]? = some (.ref sA)) (f15 : fs[15]? = some (.ref gA)) (hc : h cA = some (.inl (cI, 186, .inl cl))) (hap : ap3 o gA sA) (y1 : cA ≠ o) (y2 : cA ≠ gA) (y3 : cA ≠ sA) : gC l g mRF_work (gr 6) [.ref o] H0 (fun r h' => r = none ∧ h' = hWK cI o gA sA fs (wkF n K c cl 76 (wk0 n w0)) h) := by
  have s : ∀ (i : Nat) (v : Value), 11 ≠ i → (fs.set 11 v)[i]? = fs[i]? := fun i v q => List.getElem?_set_ne q
  obtain ⟨T, hT⟩ : ∃ T, T = wkF n K c cl 76 (wk0 n w0) := ⟨_, rfl⟩
  rw [← hT]
  have rd : ∀ (w : WK) (H : gH), H = hWK cI o gA sA fs w h → H o = some (.inr (6, fs.set 11 (.int (nI w.2.2)))) ∧ H gA = some (.inl (cI, 15, .inl w.1)) := fun w H hH => ⟨by rw [hH]; exact gh3_g0 hap, by rw [hH]; exact gh3_g1 hap⟩
  have go : ∀ (f : Nat) (w : WK) (H : gH), H = hWK cI o gA sA fs w h → okG w.1 → msG w.1 < f → w.2.2 + msG w.1 ≤ 75 → wkF n K c cl f w = T → gw l g mRF_work (gr 6) H0 (gZm g H0 0 0 (fun r h' => r = none ∧ h' = hWK cI o gA sA fs T h)) 0 0 35 [some (.ref o), some (.int 1)] [] H := by
    intro f
    induction f with
    | zero => intro w H hH h1 h2; omega
    | succ f ih =>
      intro w H hH hg hm hs hb
      obtain ⟨k0, k1⟩ := rd w H hH
      have F2 : (fs.set 11 (.int (nI w.2.2)))[2]? = some (.int (nI n)) := by rw [s 2 _ (by omega)]; exact f2
      have F3 : (fs.set 11 (.int (nI w.2.2)))[3]? = some (.int (nI K)) := by rw [s 3 _ (by omega)]; exact f3
      have F15 : (fs.set 11 (.int (nI w.2.2)))[15]? = some (.ref gA) := by rw [s 15 _ (by omega)]; exact f15
      unfold wkF at hb
      refine gw_ev (T := gT0) 60 [] gRt_m (gTO_0 _ _ _ ⟨Nat.le_refl _, Nat.le_refl _⟩) ?_
      simp only [vc_i, vc_l, vc_r, vc_n, Nat.succ_ne_self, gSd_s, gEd_s, gEd_0, gEd_B, gB_t, gB_f, gGo_c, gGo_n, gAll_n, gAll_c, gwK_s, gCT, gCF, gSet, gSet2, gKill, gTw, gTs, gLs, List.map_cons, List.map_nil, fv0, fv1, fv2, fv3, List.getElem?_cons_zero, List.getElem?_cons_succ, List.set_cons_zero, List.set_cons_succ, List.not_mem_nil, List.mem_cons, Option.toList_some, Option.toList_none, List.cons_append, List.nil_append, if_false, if_true, true_and, and_true, forall_const, true_implies, false_implies, or_false, false_or, not_true_eq_false, not_false_eq_true, and_false, false_and, implies_true, Nat.reduceAdd, Nat.reduceEqDiff, Nat.reduceLT, ↓reduceIte, cls_RF_work, st_aload_n, st_iconst, st_putfield, st_istore_n, st_iload_n, st_bipush, st_if_icmp, st_getfield, st_ishl, st_isub, st_iastore, st_iinc, st_goto, st_ifCond, st_invokevirtual, st_return_, (show mRF_work.2.2.1 = 2 from rfl), fp_RF_work_180, gF_RF_62, gF_RF_85, tn_RF_189, (show gT0 127 = none from rfl), tn_RF_193, (show gT0 128 = none from rfl), dRF_work_0, dRF_work_1, ic_0, dRF_work_2, dRF_work_5, dRF_work_6, dRF_work_7, dRF_work_8, bi_15, dRF_work_10, tg_10_23, tz_10_23, dRF_work_13, dRF_work_14, dRF_work_17, dRF_work_18, ic_1, dRF_work_19, dRF_work_20, dRF_work_23, dRF_work_24, dRF_work_25, dRF_work_26, dRF_work_27, dRF_work_30, tg_30_m23, tz_30_m23, dRF_work_33, dRF_work_34, dRF_work_35, dRF_work_36, tg_36_18, tz_36_18, dRF_work_39, dRF_work_40, dRF_work_43, tg_43_11, tz_43_11, dRF_work_46, dRF_work_47, dRF_work_50, dRF_work_51, tg_51_m16, tz_51_m16, dRF_work_54, oz]
      refine gw_cV (r := []) dRF_work_40 (c_RF_isStuck l g cI hcI o gA n K hn.2 hK (fs.set 11 (.int (nI w.2.2))) w.1 H k0 F2 F3 F15 k1) rfl (k0) rfl wc_RF_isStuck wl_RF_189 wi_RF_isStuck ws_RF_isStuck wn_RF (by show _ ∧ _ ∧ _ = some 0; decide +kernel) (by decide) (gr_ge (by first | decide | omega)) (Nat.le_of_ble_eq_true rfl) ⟨Nat.le_refl _, Nat.le_refl _⟩ ?_
      cases h1 : (segF id (5 * K) 0).any (stuckQ w.1 n) with
      | true =>
        rw [h1, if_pos rfl] at hb
        refine gw_ev (T := gT0) 60 [] gRt_m (gTO_0 _ _ _ ⟨Nat.le_refl _, Nat.le_refl _⟩) ?_
        simp only [vc_i, vc_l, vc_r, vc_n, Nat.succ_ne_self, gSd_s, gEd_s, gEd_0, gEd_B, gB_t, gB_f, gGo_c, gGo_n, gAll_n, gAll_c, gwK_s, gCT, gCF, gSet, gSet2, gKill, gTw, gTs, gLs, List.map_cons, List.map_nil, fv0, fv1, fv2, fv3, List.getElem?_cons_zero, List.getElem?_cons_succ, List.set_cons_zero, List.set_cons_succ, List.not_mem_nil, List.mem_cons, Option.toList_some, Option.toList_none, List.cons_append, List.nil_append, if_false, if_true, true_and, and_true, forall_const, true_implies, false_implies, or_false, false_or, not_true_eq_false, not_false_eq_true, and_false, false_and, implies_true, Nat.reduceAdd, Nat.reduceEqDiff, Nat.reduceLT, ↓reduceIte, cls_RF_work, st_aload_n, st_iconst, st_putfield, st_istore_n, st_iload_n, st_bipush, st_if_icmp, st_getfield, st_ishl, st_isub, st_iastore, st_iinc, st_goto, st_ifCond, st_invokevirtual, st_return_, (show mRF_work.2.2.1 = 2 from rfl), fp_RF_work_180, gF_RF_62, gF_RF_85, tn_RF_189, (show gT0 127 = none from rfl), tn_RF_193, (show gT0 128 = none from rfl), dRF_work_0, dRF_work_1, ic_0, dRF_work_2, dRF_work_5, dRF_work_6, dRF_work_7, dRF_work_8, bi_15, dRF_work_10, tg_10_23, tz_10_23, dRF_work_13, dRF_work_14, dRF_work_17, dRF_work_18, ic_1, dRF_work_19, dRF_work_20, dRF_work_23, dRF_work_24, dRF_work_25, dRF_work_26, dRF_work_27, dRF_work_30, tg_30_m23, tz_30_m23, dRF_work_33, dRF_work_34, dRF_work_35, dRF_work_36, tg_36_18, tz_36_18, dRF_work_39, dRF_work_40, dRF_work_43, tg_43_11, tz_43_11, dRF_work_46, dRF_work_47, dRF_work_50, dRF_work_51, tg_51_m16, tz_51_m16, dRF_work_54, bI_t, oz]
        rw [← hb]
        exact ⟨rfl, hH⟩
      | false =>
        rw [h1, if_neg Bool.false_ne_true] at hb
        refine gw_ev (T := gT0) 60 [] gRt_m (gTO_0 _ _ _ ⟨Nat.le_refl _, Nat.le_refl _⟩) ?_
        simp only [vc_i, vc_l, vc_r, vc_n, Nat.succ_ne_self, gSd_s, gEd_s, gEd_0, gEd_B, gB_t, gB_f, gGo_c, gGo_n, gAll_n, gAll_c, gwK_s, gCT, gCF, gSet, gSet2, gKill, gTw, gTs, gLs, List.map_cons, List.map_nil, fv0, fv1, fv2, fv3, List.getElem?_cons_zero, List.getElem?_cons_succ, List.set_cons_zero, List.set_cons_succ, List.not_mem_nil, List.mem_cons, Option.toList_some, Option.toList_none, List.cons_append, List.nil_append, if_false, if_true, true_and, and_true, forall_const, true_implies, false_implies, or_false, false_or, not_true_eq_false, not_false_eq_true, and_false, false_and, implies_true, Nat.reduceAdd, Nat.reduceEqDiff, Nat.reduceLT, ↓reduceIte, cls_RF_work, st_aload_n, st_iconst, st_putfield, st_istore_n, st_iload_n, st_bipush, st_if_icmp, st_getfield, st_ishl, st_isub, st_iastore, st_iinc, st_goto, st_ifCond, st_invokevirtual, st_return_, (show mRF_work.2.2.1 = 2 from rfl), fp_RF_work_180, gF_RF_62, gF_RF_85, tn_RF_189, (show gT0 127 = none from rfl), tn_RF_193, (show gT0 128 = none from rfl), dRF_work_0, dRF_work_1, ic_0, dRF_work_2, dRF_work_5, dRF_work_6, dRF_work_7, dRF_work_8, bi_15, dRF_work_10, tg_10_23, tz_10_23, dRF_work_13, dRF_work_14, dRF_work_17, dRF_work_18, ic_1, dRF_work_19, dRF_work_20, dRF_work_23, dRF_work_24, dRF_work_25, dRF_work_26, dRF_work_27, dRF_work_30, tg_30_m23, tz_30_m23, dRF_work_33, dRF_work_34, dRF_work_35, dRF_work_36, tg_36_18, tz_36_18, dRF_work_39, dRF_work_40, dRF_work_43, tg_43_11, tz_43_11, dRF_work_46, dRF_work_47, dRF_work_50, dRF_work_51, tg_51_m16, tz_51_m16, dRF_work_54, bI_f]
        refine gw_cV (r := []) dRF_work_47 (c_RF_stepped l g cI hcI o cA gA sA n K c hn hK hc9 fs hlen cl hok w (by omega) h H hH f2 f3 f6 f8 f13 f15 hc hap y1 y2 y3) rfl (k0) rfl wc_RF_stepped wl_RF_193 wi_RF_stepped ws_RF_stepped wn_RF (by show _ ∧ _ ∧ _ = some 0; decide +kernel) (by decide) (gr_ge (by first | decide | omega)) (Nat.le_of_ble_eq_true rfl) ⟨Nat.le_refl _, Nat.le_refl _⟩ ?_
        cases h2 : sdF n K c cl w with
        | none =>
          rw [h2] at hb
          have hb2 : w = T := hb
          refine gw_ev (T := gT0) 60 [] gRt_m (gTO_0 _ _ _ ⟨Nat.le_refl _, Nat.le_refl _⟩) ?_
          simp only [vc_i, vc_l, vc_r, vc_n, Nat.succ_ne_self, gSd_s, gEd_s, gEd_0, gEd_B, gB_t, gB_f, gGo_c, gGo_n, gAll_n, gAll_c, gwK_s, gCT, gCF, gSet, gSet2, gKill, gTw, gTs, gLs, List.map_cons, List.map_nil, fv0, fv1, fv2, fv3, List.getElem?_cons_zero, List.getElem?_cons_succ, List.set_cons_zero, List.set_cons_succ, List.not_mem_nil, List.mem_cons, Option.toList_some, Option.toList_none, List.cons_append, List.nil_append, if_false, if_true, true_and, and_true, forall_const, true_implies, false_implies, or_false, false_or, not_true_eq_false, not_false_eq_true, and_false, false_and, implies_true, Nat.reduceAdd, Nat.reduceEqDiff, Nat.reduceLT, ↓reduceIte, cls_RF_work, st_aload_n, st_iconst, st_putfield, st_istore_n, st_iload_n, st_bipush, st_if_icmp, st_getfield, st_ishl, st_isub, st_iastore, st_iinc, st_goto, st_ifCond, st_invokevirtual, st_return_, (show mRF_work.2.2.1 = 2 from rfl), fp_RF_work_180, gF_RF_62, gF_RF_85, tn_RF_189, (show gT0 127 = none from rfl), tn_RF_193, (show gT0 128 = none from rfl), dRF_work_0, dRF_work_1, ic_0, dRF_work_2, dRF_work_5, dRF_work_6, dRF_work_7, dRF_work_8, bi_15, dRF_work_10, tg_10_23, tz_10_23, dRF_work_13, dRF_work_14, dRF_work_17, dRF_work_18, ic_1, dRF_work_19, dRF_work_20, dRF_work_23, dRF_work_24, dRF_work_25, dRF_work_26, dRF_work_27, dRF_work_30, tg_30_m23, tz_30_m23, dRF_work_33, dRF_work_34, dRF_work_35, dRF_work_36, tg_36_18, tz_36_18, dRF_work_39, dRF_work_40, dRF_work_43, tg_43_11, tz_43_11, dRF_work_46, dRF_work_47, dRF_work_50, dRF_work_51, tg_51_m16, tz_51_m16, dRF_work_54, Option.isSome_none, bI_f]
          rw [← hb2]
          exact ⟨rfl, rfl⟩
        | some v =>
          rw [h2] at hb
          obtain ⟨q1, q2, q3⟩ := sdR_down hn.2 hK hg 5 1 h2
          have h9 := ih v (hWK cI o gA sA fs v h) rfl q1 (by omega) (by omega) hb
          have hgd : (some v : Option WK).getD w = v := rfl
          rw [hgd]
          refine gw_ev (T := gT0) 60 [35] gRt_m (gTO_0 _ _ _ ⟨Nat.le_refl _, Nat.le_refl _⟩) ?_
          simp only [vc_i, vc_l, vc_r, vc_n, Nat.succ_ne_self, gSd_s, gEd_s, gEd_0, gEd_B, gB_t, gB_f, gGo_c, gGo_n, gAll_n, gAll_c, gwK_s, gCT, gCF, gSet, gSet2, gKill, gTw, gTs, gLs, List.map_cons, List.map_nil, fv0, fv1, fv2, fv3, List.getElem?_cons_zero, List.getElem?_cons_succ, List.set_cons_zero, List.set_cons_succ, List.not_mem_nil, List.mem_cons, Option.toList_some, Option.toList_none, List.cons_append, List.nil_append, if_false, if_true, true_and, and_true, forall_const, true_implies, false_implies, or_false, false_or, not_true_eq_false, not_false_eq_true, and_false, false_and, implies_true, Nat.reduceAdd, Nat.reduceEqDiff, Nat.reduceLT, ↓reduceIte, cls_RF_work, st_aload_n, st_iconst, st_putfield, st_istore_n, st_iload_n, st_bipush, st_if_icmp, st_getfield, st_ishl, st_isub, st_iastore, st_iinc, st_goto, st_ifCond, st_invokevirtual, st_return_, (show mRF_work.2.2.1 = 2 from rfl), fp_RF_work_180, gF_RF_62, gF_RF_85, tn_RF_189, (show gT0 127 = none from rfl), tn_RF_193, (show gT0 128 = none from rfl), dRF_work_0, dRF_work_1, ic_0, dRF_work_2, dRF_work_5, dRF_work_6, dRF_work_7, dRF_work_8, bi_15, dRF_work_10, tg_10_23, tz_10_23, dRF_work_13, dRF_work_14, dRF_work_17, dRF_work_18, ic_1, dRF_work_19, dRF_work_20, dRF_work_23, dRF_work_24, dRF_work_25, dRF_work_26, dRF_work_27, dRF_work_30, tg_30_m23, tz_30_m23, dRF_work_33, dRF_work_34, dRF_work_35, dRF_work_36, tg_36_18, tz_36_18, dRF_work_39, dRF_work_40, dRF_work_43, tg_43_11, tz_43_11, dRF_work_46, dRF_work_47, dRF_work_50, dRF_work_51, tg_51_m16, tz_51_m16, dRF_work_54, Option.isSome_some, bI_t]
          exact h9
  have fill : ∀ (m t : Nat) (w : WK) (H : gH), t + m = 15 → H = hWK cI o gA sA fs w h → (segF id m t).foldl (fillG ((1 <<< (nI n &&& 31)) - 1)) w.1 = (wk0 n w0).1 → w.2 = (wk0 n w0).2 → gw l g mRF_work (gr 6) H0 (gZm g H0 0 0 (fun r h' => r = none ∧ h' = hWK cI o gA sA fs T h)) 0 0 7 [some (.ref o), some (.int (nI t))] [] H := by
    intro m
    induction m with
    | zero =>
      intro t w H htm hH hb hb2
      have hw : w = wk0 n w0 := Prod.ext hb hb2
      have hl : (15 : Int32) ≤ nI t := nI_le (a := 15) (by omega) (by omega)
      have h9 := go 76 w H hH (by rw [hw]; exact wk0_ok hn.2 w0) (by have := msG_le w.1; omega) (by
        have h1 := msG_le w.1
        have h2 : w.2.2 = 0 := by rw [hw]; rfl
        omega) (by rw [hw]; exact hT.symm)
      refine gw_ev (T := gT0) 60 [35] gRt_m (gTO_0 _ _ _ ⟨Nat.le_refl _, Nat.le_refl _⟩) ?_
      simp only [vc_i, vc_l, vc_r, vc_n, Nat.succ_ne_self, gSd_s, gEd_s, gEd_0, gEd_B, gB_t, gB_f, gGo_c, gGo_n, gAll_n, gAll_c, gwK_s, gCT, gCF, gSet, gSet2, gKill, gTw, gTs, gLs, List.map_cons, List.map_nil, fv0, fv1, fv2, fv3, List.getElem?_cons_zero, List.getElem?_cons_succ, List.set_cons_zero, List.set_cons_succ, List.not_mem_nil, List.mem_cons, Option.toList_some, Option.toList_none, List.cons_append, List.nil_append, if_false, if_true, true_and, and_true, forall_const, true_implies, false_implies, or_false, false_or, not_true_eq_false, not_false_eq_true, and_false, false_and, implies_true, Nat.reduceAdd, Nat.reduceEqDiff, Nat.reduceLT, ↓reduceIte, cls_RF_work, st_aload_n, st_iconst, st_putfield, st_istore_n, st_iload_n, st_bipush, st_if_icmp, st_getfield, st_ishl, st_isub, st_iastore, st_iinc, st_goto, st_ifCond, st_invokevirtual, st_return_, (show mRF_work.2.2.1 = 2 from rfl), fp_RF_work_180, gF_RF_62, gF_RF_85, tn_RF_189, (show gT0 127 = none from rfl), tn_RF_193, (show gT0 128 = none from rfl), dRF_work_0, dRF_work_1, ic_0, dRF_work_2, dRF_work_5, dRF_work_6, dRF_work_7, dRF_work_8, bi_15, dRF_work_10, tg_10_23, tz_10_23, dRF_work_13, dRF_work_14, dRF_work_17, dRF_work_18, ic_1, dRF_work_19, dRF_work_20, dRF_work_23, dRF_work_24, dRF_work_25, dRF_work_26, dRF_work_27, dRF_work_30, tg_30_m23, tz_30_m23, dRF_work_33, dRF_work_34, dRF_work_35, dRF_work_36, tg_36_18, tz_36_18, dRF_work_39, dRF_work_40, dRF_work_43, tg_43_11, tz_43_11, dRF_work_46, dRF_work_47, dRF_work_50, dRF_work_51, tg_51_m16, tz_51_m16, dRF_work_54, hl]
      exact gw_less (by simp [gLe]) h9
    | succ m ih =>
      intro t w H htm hH hb hb2
      obtain ⟨k0, k1⟩ := rd w H hH
      have F2 : (fs.set 11 (.int (nI w.2.2)))[2]? = some (.int (nI n)) := by rw [s 2 _ (by omega)]; exact f2
      have F15 : (fs.set 11 (.int (nI w.2.2)))[15]? = some (.ref gA) := by rw [s 15 _ (by omega)]; exact f15
      have hl : ¬ (15 : Int32) ≤ nI t := nI_ge (b := 15) (by omega) (by omega)
      have ct : (nI t).toNatClampNeg = t := nI_clamp (by omega)
      have vt : vp_in (nI t) 15 := vp_in_nI (by omega) (by omega)
      have h9 := ih (t + 1) (upd w.1 t ((1 <<< (nI n &&& 31)) - 1), w.2) (gup H gA (.inl (cI, 15, .inl (upd w.1 t ((1 <<< (nI n &&& 31)) - 1))))) (by omega) (by
        rw [hH]
        unfold hWK
        rw [gh3_p1 hap]) hb hb2
      refine gw_ev (T := gT0) 60 [7] gRt_m (gTO_0 _ _ _ ⟨Nat.le_refl _, Nat.le_refl _⟩) ?_
      simp only [vc_i, vc_l, vc_r, vc_n, Nat.succ_ne_self, gSd_s, gEd_s, gEd_0, gEd_B, gB_t, gB_f, gGo_c, gGo_n, gAll_n, gAll_c, gwK_s, gCT, gCF, gSet, gSet2, gKill, gTw, gTs, gLs, List.map_cons, List.map_nil, fv0, fv1, fv2, fv3, List.getElem?_cons_zero, List.getElem?_cons_succ, List.set_cons_zero, List.set_cons_succ, List.not_mem_nil, List.mem_cons, Option.toList_some, Option.toList_none, List.cons_append, List.nil_append, if_false, if_true, true_and, and_true, forall_const, true_implies, false_implies, or_false, false_or, not_true_eq_false, not_false_eq_true, and_false, false_and, implies_true, Nat.reduceAdd, Nat.reduceEqDiff, Nat.reduceLT, ↓reduceIte, cls_RF_work, st_aload_n, st_iconst, st_putfield, st_istore_n, st_iload_n, st_bipush, st_if_icmp, st_getfield, st_ishl, st_isub, st_iastore, st_iinc, st_goto, st_ifCond, st_invokevirtual, st_return_, (show mRF_work.2.2.1 = 2 from rfl), fp_RF_work_180, gF_RF_62, gF_RF_85, tn_RF_189, (show gT0 127 = none from rfl), tn_RF_193, (show gT0 128 = none from rfl), dRF_work_0, dRF_work_1, ic_0, dRF_work_2, dRF_work_5, dRF_work_6, dRF_work_7, dRF_work_8, bi_15, dRF_work_10, tg_10_23, tz_10_23, dRF_work_13, dRF_work_14, dRF_work_17, dRF_work_18, ic_1, dRF_work_19, dRF_work_20, dRF_work_23, dRF_work_24, dRF_work_25, dRF_work_26, dRF_work_27, dRF_work_30, tg_30_m23, tz_30_m23, dRF_work_33, dRF_work_34, dRF_work_35, dRF_work_36, tg_36_18, tz_36_18, dRF_work_39, dRF_work_40, dRF_work_43, tg_43_11, tz_43_11, dRF_work_46, dRF_work_47, dRF_work_50, dRF_work_51, tg_51_m16, tz_51_m16, dRF_work_54, hl, k0, F2, F15, k1, ct, nI_1]
      exact ⟨⟨hcI, vt⟩, h9⟩
  clear go
  obtain ⟨k0, k1⟩ := rd w0 H0 hH0
  have Fl : (fs.set 11 (.int (nI w0.2.2))).length = 33 := by rw [List.length_set]; exact hlen
  have h9 := fill 15 0 (w0.1, w0.2.1, 0) (gup H0 o (.inr (6, fs.set 11 (.int (nI 0))))) (by omega) (by
    rw [hH0]
    unfold hWK
    rw [gh3_p0 hap]) rfl rfl
  rw [nI_0] at h9
  have hss : (fs.set 11 (.int (nI w0.2.2))).set 11 (.int 0) = fs.set 11 (.int 0) := List.set_set ..
  refine gC_of (lv0 := [some (.ref o), none]) (by decide +kernel) (Nat.le_of_ble_eq_true rfl) (fun q hq => hq) ⟨rfl, rfl⟩ ?_
  refine gw_ev (T := gT0) 60 [7] gRt_m (gTO_0 _ _ _ ⟨Nat.le_refl _, Nat.le_refl _⟩) ?_
  simp only [vc_i, vc_l, vc_r, vc_n, Nat.succ_ne_self, gSd_s, gEd_s, gEd_0, gEd_B, gB_t, gB_f, gGo_c, gGo_n, gAll_n, gAll_c, gwK_s, gCT, gCF, gSet, gSet2, gKill, gTw, gTs, gLs, List.map_cons, List.map_nil, fv0, fv1, fv2, fv3, List.getElem?_cons_zero, List.getElem?_cons_succ, List.set_cons_zero, List.set_cons_succ, List.not_mem_nil, List.mem_cons, Option.toList_some, Option.toList_none, List.cons_append, List.nil_append, if_false, if_true, true_and, and_true, forall_const, true_implies, false_implies, or_false, false_or, not_true_eq_false, not_false_eq_true, and_false, false_and, implies_true, Nat.reduceAdd, Nat.reduceEqDiff, Nat.reduceLT, ↓reduceIte, cls_RF_work, st_aload_n, st_iconst, st_putfield, st_istore_n, st_iload_n, st_bipush, st_if_icmp, st_getfield, st_ishl, st_isub, st_iastore, st_iinc, st_goto, st_ifCond, st_invokevirtual, st_return_, (show mRF_work.2.2.1 = 2 from rfl), fp_RF_work_180, gF_RF_62, gF_RF_85, tn_RF_189, (show gT0 127 = none from rfl), tn_RF_193, (show gT0 128 = none from rfl), dRF_work_0, dRF_work_1, ic_0, dRF_work_2, dRF_work_5, dRF_work_6, dRF_work_7, dRF_work_8, bi_15, dRF_work_10, tg_10_23, tz_10_23, dRF_work_13, dRF_work_14, dRF_work_17, dRF_work_18, ic_1, dRF_work_19, dRF_work_20, dRF_work_23, dRF_work_24, dRF_work_25, dRF_work_26, dRF_work_27, dRF_work_30, tg_30_m23, tz_30_m23, dRF_work_33, dRF_work_34, dRF_work_35, dRF_work_36, tg_36_18, tz_36_18, dRF_work_39, dRF_work_40, dRF_work_43, tg_43_11, tz_43_11, dRF_work_46, dRF_work_47, dRF_work_50, dRF_work_51, tg_51_m16, tz_51_m16, dRF_work_54, k0, Fl, hss]
  exact ⟨fit_i _, h9⟩
