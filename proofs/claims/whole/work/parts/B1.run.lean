-- a whole proof, on both sides; what its steps leave of the answers
def updN (X : Nat → Nat) (i y : Nat) : Nat → Nat := fun j => if j = i then y else X j
theorem updN_s (X : Nat → Nat) (i y : Nat) : updN X i y i = y := if_pos rfl
theorem updN_n (X : Nat → Nat) {i j : Nat} (y : Nat) (h : ¬ j = i) : updN X i y j = X j := if_neg h
def muX (N K : Nat) (X : Nat → Nat) : Nat := sumF (fun i => pcN (X i)) (N * K)
def relP (N K : Nat) (X : Nat → Nat) (s : PS) (w : WK) : Prop := grX N K X s.1 w.1 ∧ s.2.2.2.2.2.1 = w.2.2 ∧ (∀ k, k < w.2.2 → w.2.1 (4 * k) = s.2.1 k ∧ w.2.1 (4 * k + 1) = s.2.2.1 k ∧ w.2.1 (4 * k + 2) = s.2.2.2.1 k ∧ w.2.1 (4 * k + 3) = s.2.2.2.2.1 k) ∧ s.2.2.2.2.2.2.1 = (segF id w.2.2 0).foldl (rmxS w.2.1) 0 ∧ (s.2.2.2.2.2.2.2 = 0 ↔ ∀ i, i < N * K → ¬ X i = 0)
theorem seg_snoc (m : Nat) : segF id (m + 1) 0 = segF id m 0 ++ [m] := by
  rw [segF_range, segF_range, ← List.range_eq_range', ← List.range_eq_range', List.range_succ]
theorem fold_congr {α β : Type} {f g : β → α → β} : ∀ {l : List α} {b : β}, (∀ b, ∀ a ∈ l, f b a = g b a) → l.foldl f b = l.foldl g b
  | [], _, _ => rfl
  | a :: l, b, h => by
    rw [List.foldl_cons, List.foldl_cons, h b a List.mem_cons_self]
    exact fold_congr (fun c d hd => h c d (List.mem_cons_of_mem _ hd))
section RUN
variable {N K n : Nat} {Q : Nat → Clue} {X : Nat → Nat} {cs cl : Nat → Int32} {s : PS} {w : WK}
/-- the bits that are left of a thing -/
theorem clr_val (hN : 0 < N ∧ N ≤ 5) {x p : Nat} (hx : x < 2 ^ N) (hp : p < N) (hb : x.testBit p = true) : ∃ y, y < 2 ^ N ∧ nI x &&& ((1 <<< (nI p &&& 31)) ^^^ (-1)) = nI y ∧ (∀ q, q < 32 → (y.testBit q = true ↔ x.testBit q = true ∧ q ≠ p)) ∧ pcN y + 1 = pcN x := by
  obtain ⟨y, hy, e, hbit⟩ := bar_val hN hx ((1 <<< (nI p &&& 31)) ^^^ (-1))
  have x32 := lt_32 hN.2 hx
  have y32 := lt_32 hN.2 hy
  refine ⟨y, hy, e, fun q hq => ?_, ?_⟩
  · rw [hbit q hq, b_xor, b_m1 q hq]
    have := bt_bitF p (by omega) q hq
    unfold bitF at this
    rw [this]
    simp
  · obtain ⟨y', e', h'⟩ := clr_all ⟨x, x32⟩ ⟨p, by omega⟩ (by
      intro z
      have := (bit_is (x := nI x) (p := p) (by omega)).mp z
      rw [bt_nI _ _ (by omega), hb] at this
      exact Bool.false_ne_true this.symm)
    have hy' := y'.isLt
    have ee : y = y'.val := (nI_eq (by omega) (by omega)).mp (by rw [← e]; exact e')
    rw [ee]
    exact h'
theorem take_rel (hN : 0 < N ∧ N ≤ 5) (h : relP N K X s w) {i p rule k : Nat} (hi : i < N * K) (hp : p < N) (hb : (X i).testBit p = true) (hnz : ∀ j, j < N * K → ¬ X j = 0) : ∃ y, (∀ q, q < 32 → (y.testBit q = true ↔ (X i).testBit q = true ∧ q ≠ p)) ∧ pcN y + 1 = pcN (X i) ∧ relP N K (updN X i y) (takeP (nI rule) (if rule = 3 ∨ rule = 5 then nI k else -1) (tAt N i) (nI p) s) (wkA rule k w (j5 N i, p)) := by
  obtain ⟨hX, hlen, hst, hre, hbr⟩ := h
  obtain ⟨x1, x2, x3⟩ := hX i hi
  obtain ⟨y, hy, e, hbit, hpc⟩ := clr_val hN x1 hp hb
  have y32 := lt_32 hN.2 hy
  have eg : takeG s.1 (tAt N i) (nI p) = nI y := by
    unfold takeG
    rw [x2]
    exact e
  have er : w.1 (j5 N i) &&& ((1 <<< (nI p &&& 31)) ^^^ -1) = nI y := by rw [x3]; exact e
  refine ⟨y, hbit, hpc, ?_, ?_, ?_, ?_, ?_⟩
  · intro j hj
    by_cases ej : j = i
    · rw [ej]
      refine ⟨by rw [updN_s]; exact hy, ?_, ?_⟩
      · show upd s.1 (tAt N i) (takeG s.1 (tAt N i) (nI p)) (tAt N i) = _
        rw [eg, updN_s]
        exact if_pos rfl
      · show upd w.1 (j5 N i) (w.1 (j5 N i) &&& ((1 <<< (nI p &&& 31)) ^^^ -1)) (j5 N i) = _
        rw [er, updN_s]
        exact if_pos rfl
    · obtain ⟨y1, y2, y3⟩ := hX j hj
      refine ⟨by rw [updN_n _ _ ej]; exact y1, ?_, ?_⟩
      · show upd s.1 (tAt N i) _ (tAt N j) = _
        rw [updN_n _ _ ej, ← y2]
        exact if_neg (fun z => ej (tAt_inj hN z))
      · show upd w.1 (j5 N i) _ (j5 N j) = _
        rw [updN_n _ _ ej, ← y3]
        exact if_neg (fun z => ej (j5_inj hN z))
  · show s.2.2.2.2.2.1 + 1 = w.2.2 + 1
    rw [hlen]
  · intro k' hk'
    have hk' : k' < w.2.2 + 1 := hk'
    show upd (upd (upd (upd w.2.1 (4 * w.2.2) (nI rule)) (4 * w.2.2 + 1) _) (4 * w.2.2 + 2) _) (4 * w.2.2 + 3) _ (4 * k') = upd s.2.1 s.2.2.2.2.2.1 (nI rule) k' ∧ upd (upd (upd (upd w.2.1 (4 * w.2.2) (nI rule)) (4 * w.2.2 + 1) _) (4 * w.2.2 + 2) _) (4 * w.2.2 + 3) _ (4 * k' + 1) = upd s.2.2.1 s.2.2.2.2.2.1 _ k' ∧ upd (upd (upd (upd w.2.1 (4 * w.2.2) (nI rule)) (4 * w.2.2 + 1) _) (4 * w.2.2 + 2) _) (4 * w.2.2 + 3) _ (4 * k' + 2) = upd s.2.2.2.1 s.2.2.2.2.2.1 (nI (tAt N i)) k' ∧ upd (upd (upd (upd w.2.1 (4 * w.2.2) (nI rule)) (4 * w.2.2 + 1) _) (4 * w.2.2 + 2) _) (4 * w.2.2 + 3) (nI p) (4 * k' + 3) = upd s.2.2.2.2.1 s.2.2.2.2.2.1 (nI p) k'
    rw [hlen]
    by_cases ek : k' = w.2.2
    · subst ek
      rw [pk_us, pk_us, pk_us, pk_us, pk_us, pk_un (by omega), pk_un (by omega), pk_un (by omega), pk_us, pk_un (by omega), pk_un (by omega), pk_us, pk_un (by omega), pk_us]
      refine ⟨rfl, rfl, ?_, rfl⟩
      show nI (10 * (j5 N i / 5 + 1) + j5 N i % 5) = nI (tAt N i)
      rw [(j5_d hN i).1, (j5_d hN i).2]
      rfl
    · obtain ⟨a1, a2, a3, a4⟩ := hst k' (by omega)
      rw [pk_un (by omega), pk_un (by omega), pk_un (by omega), pk_un (by omega), pk_un ek, pk_un (by omega), pk_un (by omega), pk_un (by omega), pk_un (by omega), pk_un ek, pk_un (by omega), pk_un (by omega), pk_un (by omega), pk_un (by omega), pk_un ek, pk_un (by omega), pk_un (by omega), pk_un (by omega), pk_un (by omega), pk_un ek]
      exact ⟨a1, a2, a3, a4⟩
  · obtain ⟨st', hst'⟩ : ∃ st', st' = (wkA rule k w (j5 N i, p)).2.1 := ⟨_, rfl⟩
    show maxF s.2.2.2.2.2.2.1 (nI rule) = (segF id (w.2.2 + 1) 0).foldl (rmxS (wkA rule k w (j5 N i, p)).2.1) 0
    rw [← hst', seg_snoc, List.foldl_append]
    have c1 : (segF id w.2.2 0).foldl (rmxS st') 0 = (segF id w.2.2 0).foldl (rmxS w.2.1) 0 := by
      refine fold_congr fun b a ha => ?_
      obtain ⟨j, hj, ej⟩ := seg_mem.mp ha
      have e4 : st' (4 * a) = w.2.1 (4 * a) := by
        rw [hst']
        show upd (upd (upd (upd w.2.1 (4 * w.2.2) (nI rule)) (4 * w.2.2 + 1) _) (4 * w.2.2 + 2) _) (4 * w.2.2 + 3) _ (4 * a) = _
        rw [pk_un (by omega), pk_un (by omega), pk_un (by omega), pk_un (by omega)]
      unfold rmxS
      rw [e4]
    rw [c1, ← hre]
    have e5 : st' (4 * w.2.2) = nI rule := by
      rw [hst']
      show upd (upd (upd (upd w.2.1 (4 * w.2.2) (nI rule)) (4 * w.2.2 + 1) _) (4 * w.2.2 + 2) _) (4 * w.2.2 + 3) _ (4 * w.2.2) = _
      rw [pk_un (by omega), pk_un (by omega), pk_un (by omega), pk_us]
    show maxF s.2.2.2.2.2.2.1 (nI rule) = rmxS st' s.2.2.2.2.2.2.1 w.2.2
    unfold maxF rmxS
    rw [e5]
    by_cases hl : s.2.2.2.2.2.2.1 < nI rule
    · rw [if_pos hl, if_neg (Int32.not_le.mpr hl)]
    · rw [if_neg hl, if_pos (Int32.not_lt.mp hl)]
  · show bI (decide (takeG s.1 (tAt N i) (nI p) = 0)) = 0 ↔ _
    rw [eg]
    constructor
    · intro z j hj
      by_cases ej : j = i
      · rw [ej, updN_s]
        intro y0
        rw [y0] at z
        exact absurd z (by decide)
      · rw [updN_n _ _ ej]
        exact hnz j hj
    · intro z
      have := z i hi
      rw [updN_s] at this
      rw [decide_eq_false (nI_ne0 (by omega) (by omega))]
      rfl
theorem mu_take {y i : Nat} (hi : i < N * K) (h : pcN y + 1 = pcN (X i)) : muX N K (updN X i y) + 1 = muX N K X := by
  have h1 := sumF_upd (fun j => pcN (X j)) i (pcN y) (N * K)
  rw [if_pos hi, if_pos hi] at h1
  have h2 : (fun j => if j = i then pcN y else (fun j => pcN (X j)) j) = (fun j => pcN (updN X i y j)) := by
    funext j
    by_cases e : j = i
    · rw [if_pos e, e, updN_s]
    · rw [if_neg e, updN_n _ _ e]
  rw [h2] at h1
  have h3 : (fun j => pcN (X j)) i = pcN (X i) := rfl
  show sumF (fun j => pcN (updN X i y j)) (N * K) + 1 = sumF (fun j => pcN (X j)) (N * K)
  omega
/-- a row of places in which the clues without a speaker hold -/
def goodF (N K n : Nat) (Q : Nat → Clue) (F : List Nat) : Prop := okL N F ∧ F.length = N * K ∧ ∀ k, k < n → (Q k).2.2.2.2.2 = -1 → soN N F (Q k) = true
def sndX (N K : Nat) (F : List Nat) (X : Nat → Nat) : Prop := ∀ i, i < N * K → (X i).testBit (F.getD i 0) = true
theorem pair_tab : ∀ x, x < 32 → ∀ p, p < 5 → ∀ a, a < 5 → ∀ b, b < 5 → (pcN x == 2 && x.testBit p && x.testBit a && x.testBit b && a != b && p != a && p != b) = false := by decide +kernel
theorem one_tab : ∀ p, p < 5 → ∀ a, a < 5 → (2 ^ p).testBit a = decide (a = p) := by decide +kernel
/-- no rule takes a place that an answer needs -/
theorem snd_rule (hN : 0 < N ∧ N ≤ 5) (hK : K ≤ 3) (hQ : ∀ k, k < n → okQ N K (Q k)) (hX : ∀ i, i < N * K → X i < 2 ^ N) {F : List Nat} (hF : goodF N K n Q F) (hs : sndX N K F X) {rule k i p : Nat} (hi : i < N * K) (hp : p < N) (hT : TX N n Q X rule k i p) : F.getD i 0 ≠ p := by
  obtain ⟨hL, hlen, hso⟩ := hF
  have hdm : N * (i / N) + i % N = i := Nat.div_add_mod i N
  have hmi := Nat.mod_lt i hN.1
  -- another thing of the sort is elsewhere
  have apart : ∀ a, a < N → a ≠ i % N → F.getD (N * (i / N) + a) 0 ≠ F.getD i 0 := by
    intro a ha hne
    have hb := sort_lt hN.1 hi ha
    obtain ⟨d1, d2⟩ := sort_dm hN.1 (q := i / N) ha
    by_cases hlt : a < i % N
    · exact hL.2 _ _ (by omega) (by omega) d1
    · exact Ne.symm (hL.2 _ _ (by omega) (by omega) d1.symm)
  have vlt : ∀ j, j < N * K → F.getD j 0 < N := fun j hj => hL.1 j (by omega)
  rcases hT with ⟨_, j, hj, hne, he⟩ | ⟨_, q, hq, hqp, hb, hno⟩ | ⟨_, a, b, hab, hbN, n1, n2, e, hpc, hb⟩ | ⟨_, hk, hsp, k9, hbit, hin, hcan⟩
  · have hb := sort_lt hN.1 hi hj
    have h1 := hs _ hb
    have hv := vlt _ hb
    rw [he, one_tab p (by omega) _ (by omega), decide_eq_true_iff] at h1
    rw [← h1]
    exact Ne.symm (apart j hj hne)
  · have hfull : N * (i / N + 1) ≤ F.length := by
      rw [hlen]
      exact Nat.mul_le_mul_left N (div_lt_K hN.1 hi)
    obtain ⟨j, hj, hjq⟩ := okL_all hN.1 hL hfull hq
    have hb2 := sort_lt hN.1 hi hj
    have h1 := hs _ hb2
    rw [hjq] at h1
    by_cases e : j = i % N
    · rw [e, hdm] at hjq
      rw [hjq]
      exact hqp
    · rw [hno j hj e] at h1
      exact absurd h1 Bool.false_ne_true
  · intro hFi
    have ba := sort_lt hN.1 hi (show a < N by omega)
    have bb := sort_lt hN.1 hi hbN
    have ha1 := hs _ ba
    have hb1 := hs _ bb
    rw [← e] at hb1
    have va := vlt _ ba
    have vb := vlt _ bb
    have ab : F.getD (N * (i / N) + a) 0 ≠ F.getD (N * (i / N) + b) 0 := hL.2 _ _ (by omega) (by omega) (by rw [(sort_dm hN.1 (show a < N by omega)).1, (sort_dm hN.1 hbN).1])
    have pa := apart a (by omega) n1
    have pb := apart b hbN n2
    rw [hFi] at pa pb
    have ht := pair_tab _ (lt_32 hN.2 (hX _ ba)) p (by omega) _ (show F.getD (N * (i / N) + a) 0 < 5 by omega) _ (show F.getD (N * (i / N) + b) 0 < 5 by omega)
    rw [hpc, hb, ha1, hb1, bne_iff_ne.mpr ab, bne_iff_ne.mpr (Ne.symm pa), bne_iff_ne.mpr (Ne.symm pb)] at ht
    exact absurd ht (by decide)
  · intro hFi
    apply hcan
    have hq := hQ k hk
    have hsoF := hso k hk hsp
    obtain ⟨h1, hx, h3, h4, h5, h6⟩ := hq
    have may : ∀ v, isT N K v → mayX N X i p v (atL N F v) ∧ atL N F v < N := by
      intro v hv
      obtain ⟨j, hj, rfl⟩ := hv
      rw [atL_t hN]
      refine ⟨?_, vlt j hj⟩
      unfold mayX
      by_cases e : tAt N j = tAt N i
      · rw [if_pos e, tAt_inj hN e, hFi]
      · rw [if_neg e, ixN_t hN]
        exact hs j hj
    have clash : ∀ u v, isT N K u → isT N K v → u ≠ v → ¬ (u / 10 = v / 10 ∧ atL N F u = atL N F v) := by
      intro u v hu hv hne
      obtain ⟨j, hj, rfl⟩ := hu
      obtain ⟨m, hm, rfl⟩ := hv
      rw [atL_t hN, atL_t hN, (tAt_q hN j).1, (tAt_q hN m).1]
      rintro ⟨z1, z2⟩
      have hjm : j ≠ m := fun z => hne (by rw [z])
      have z1' : j / N = m / N := by omega
      by_cases hlt : j < m
      · exact hL.2 j m hlt (by omega) z1' z2
      · exact hL.2 m j (by omega) (by omega) z1'.symm z2.symm
    have at0 : atL N F 0 = 0 := if_pos (by decide)
    unfold soN at hsoF
    rw [if_neg k9] at hsoF
    refine ⟨atL N F (Q k).2.1, atL N F (Q k).2.2.1, atL N F (Q k).2.2.2.1, (may _ hx).2, (may _ hx).1, ?_, ?_, hsoF⟩
    · by_cases k6 : (Q k).1 = 6
      · rw [if_pos k6] at h3 ⊢
        rw [h3, at0]
      · rw [if_neg k6] at h3 ⊢
        exact ⟨(may _ h3.1).2, (may _ h3.1).1, clash _ _ h3.1 hx h3.2⟩
    · by_cases k3 : (Q k).1 = 5 ∨ (Q k).1 = 7 ∨ (Q k).1 = 8
      · have k6 : ¬ (Q k).1 = 6 := by omega
        rw [if_neg k6] at h3
        rw [if_pos k3] at h4 ⊢
        exact ⟨(may _ h4.1).2, (may _ h4.1).1, clash _ _ h4.1 hx h4.2.1, clash _ _ h4.1 h3.1 h4.2.2⟩
      · rw [if_neg k3] at h4 ⊢
        rw [h4, at0]
theorem stuck_iff (hN : 0 < N ∧ N ≤ 5) (hX : grX N K X s.1 w.1) : (segF id (5 * K) 0).any (stuckQ w.1 N) = true ↔ ∃ i, i < N * K ∧ X i = 0 := by
  rw [List.any_eq_true]
  constructor
  · rintro ⟨t, ht, hc⟩
    obtain ⟨j, hj, e⟩ := seg_mem.mp ht
    have hc := of_decide_eq_true hc
    obtain ⟨i, hi, rfl⟩ := j5_of (t := t) (K := K) hN (by omega) hc.1
    obtain ⟨x1, _, x3⟩ := hX i hi
    rw [x3] at hc
    have := lt_32 hN.2 x1
    exact ⟨i, hi, (nI_eq (b := 0) (by omega) (by omega)).mp hc.2⟩
  · rintro ⟨i, hi, h0⟩
    obtain ⟨x1, _, x3⟩ := hX i hi
    refine ⟨j5 N i, seg_mem.mpr ⟨j5 N i, j5_lt2 hN hi, by omega⟩, decide_eq_true ⟨by rw [(j5_d hN i).2]; exact Nat.mod_lt _ hN.1, ?_⟩⟩
    rw [x3, h0]
    rfl
/-- both proofs go on alike -/
theorem sim (hN : 0 < N ∧ N ≤ 5) (hK : 1 ≤ K ∧ K ≤ 3) (hcs : ∀ k, k < n → cs k = cdC (Q k)) (hQ : ∀ k, k < n → okQ N K (Q k)) (hcl : ∀ k, k < n → rowOK cl k (Q k)) : ∀ (m f : Nat) (X : Nat → Nat) (s : PS) (w : WK), relP N K X s w → muX N K X ≤ m → muX N K X ≤ f → ∃ X', relP N K X' (rnF N K n cs m s) (wkF N K n cl f w) ∧ ∀ F, goodF N K n Q F → sndX N K F X → sndX N K F X' := by
  have h0K : 0 < N * K := Nat.mul_pos hN.1 hK.1
  intro m
  induction m with
  | zero =>
    intro f X s w h hm hf
    refine ⟨X, ?_, fun F _ z => z⟩
    have hz : ∃ i, i < N * K ∧ X i = 0 := by
      refine ⟨0, h0K, ?_⟩
      have x32 := lt_32 hN.2 (h.1 0 h0K).1
      have hmu : pcN (X 0) = 0 := by
        have key : ∀ m, 0 < m → pcN (X 0) ≤ sumF (fun i => pcN (X i)) m := by
          intro m
          induction m with
          | zero => intro q; omega
          | succ m ih =>
            intro _
            show _ ≤ sumF (fun i => pcN (X i)) m + pcN (X m)
            by_cases e : m = 0
            · rw [e]; omega
            · have := ih (by omega); omega
        have := key (N * K) h0K
        unfold muX at hm
        omega
      have tab : ∀ x, x < 32 → pcN x = 0 → x = 0 := by decide +kernel
      exact tab _ x32 hmu
    have hst := (stuck_iff hN h.1).mpr hz
    have e : wkF N K n cl f w = w := by
      cases f with
      | zero => rfl
      | succ f =>
        unfold wkF
        rw [if_pos hst]
    rw [e]
    exact h
  | succ m ih =>
    intro f X s w h hm hf
    unfold rnF
    by_cases hb : s.2.2.2.2.2.2.2 = 0
    · rw [if_neg (fun z => z hb)]
      have hnz := h.2.2.2.2.mp hb
      have hnst : ¬ (segF id (5 * K) 0).any (stuckQ w.1 N) = true := fun z => by
        obtain ⟨i, hi, e⟩ := (stuck_iff hN h.1).mp z
        exact hnz i hi e
      have hs := same_step (Q := Q) hN hK.2 h.1 hcs hQ hcl
      rcases hs with ⟨e1, e2⟩ | ⟨rule, k, i, p, a1, a2, a3, a4, a5, e1, e2⟩
      · rw [e1]
        have e : wkF N K n cl f w = w := by
          cases f with
          | zero => rfl
          | succ f =>
            unfold wkF
            rw [if_neg hnst, e2]
        rw [e]
        exact ⟨X, h, fun F _ z => z⟩
      · rw [e1]
        obtain ⟨y, hbit, hpc, hrel⟩ := take_rel (rule := rule) (k := k) hN h a2 a3 a4 hnz
        have hmu := mu_take a2 hpc
        cases f with
        | zero => omega
        | succ f =>
          unfold wkF
          rw [if_neg hnst, e2]
          obtain ⟨X', r1, r2⟩ := ih f _ _ _ hrel (by omega) (by omega)
          refine ⟨X', r1, fun F hF hsn => r2 F hF ?_⟩
          have hne := snd_rule hN hK.2 hQ (fun i hi => (h.1 i hi).1) hF hsn a2 a3 a5
          intro j hj
          by_cases e : j = i
          · rw [e, updN_s]
            have hv : F.getD i 0 < N := hF.1.1 i (by rw [hF.2.1]; exact a2)
            exact (hbit _ (by omega)).mpr ⟨hsn i a2, hne⟩
          · rw [updN_n _ _ e]
            exact hsn j hj
    · rw [if_pos hb]
      have hst : (segF id (5 * K) 0).any (stuckQ w.1 N) = true := by
        refine (stuck_iff hN h.1).mpr (Classical.byContradiction fun hc => hb (h.2.2.2.2.mpr (fun i hi e => hc ⟨i, hi, e⟩)))
      have e : wkF N K n cl f w = w := by
        cases f with
        | zero => rfl
        | succ f =>
          unfold wkF
          rw [if_pos hst]
      rw [e]
      exact ⟨X, h, fun F _ z => z⟩
theorem full_tab : ∀ N, N < 6 → fullF N = nI (2 ^ N - 1) := by decide +kernel
theorem grid_fold : ∀ (m i : Nat) (f : Nat → Int32) (hN : 0 < N ∧ N ≤ 5), (∀ j, i ≤ j → j < i + m → ((segF id m i).foldl (gridI N) f) (tAt N j) = fullF N) ∧ ∀ t, (∀ j, i ≤ j → j < i + m → t ≠ tAt N j) → ((segF id m i).foldl (gridI N) f) t = f t := by
  intro m
  induction m with
  | zero => intro i f hN; exact ⟨fun j h1 h2 => by omega, fun t _ => rfl⟩
  | succ m ih =>
    intro i f hN
    obtain ⟨h1, h2⟩ := ih (i + 1) (gridI N f i) hN
    constructor
    · intro j a b
      show ((segF id m (i + 1)).foldl (gridI N) (gridI N f i)) (tAt N j) = _
      by_cases e : j = i
      · rw [h2 (tAt N j) (fun j' a' b' z => by have := tAt_inj hN z; omega), e]
        exact if_pos rfl
      · exact h1 j (by omega) (by omega)
    · intro t ht
      show ((segF id m (i + 1)).foldl (gridI N) (gridI N f i)) t = _
      rw [h2 t (fun j a b => ht j (by omega) (by omega))]
      exact if_neg (ht i (by omega) (by omega))
theorem fill_fold (v : Int32) : ∀ (m t : Nat) (g : Nat → Int32) (j : Nat), ((segF id m t).foldl (fillG v) g) j = if t ≤ j ∧ j < t + m then v else g j := by
  intro m
  induction m with
  | zero => intro t g j; rw [if_neg (by omega)]; rfl
  | succ m ih =>
    intro t g j
    show ((segF id m (t + 1)).foldl (fillG v) (fillG v g t)) j = _
    rw [ih]
    by_cases h1 : j = t
    · rw [if_neg (by omega), if_pos (by omega), h1]
      exact if_pos rfl
    · have h2 : fillG v g t j = g j := if_neg h1
      rw [h2]
      by_cases h3 : t + 1 ≤ j ∧ j < t + 1 + m
      · rw [if_pos h3, if_pos (by omega)]
      · rw [if_neg h3, if_neg (by omega)]
theorem start_rel (hN : 0 < N ∧ N ≤ 5) (hK : K ≤ 3) (s : PS) (w : WK) : relP N K (fun _ => 2 ^ N - 1) (startF N K s) (wk0 N w) := by
  have h2 : 1 < 2 ^ N := Nat.one_lt_two_pow (by omega)
  refine ⟨fun i hi => ⟨show 2 ^ N - 1 < 2 ^ N by omega, ?_, ?_⟩, rfl, fun k hk => absurd hk (Nat.not_lt_zero _), rfl, ?_⟩
  · show ((segF id (N * K) 0).foldl (gridI N) s.1) (tAt N i) = _
    rw [(grid_fold (N * K) 0 s.1 hN).1 i (by omega) (by omega), full_tab N (by omega)]
  · show ((segF id 15 0).foldl (fillG ((1 <<< (nI N &&& 31)) - 1)) w.1) (j5 N i) = _
    rw [fill_fold, if_pos ⟨Nat.zero_le _, by have := j5_lt hN hK hi; omega⟩]
    exact full_tab N (by omega)
  · show (0 : Int32) = 0 ↔ _
    exact ⟨fun _ i _ => show ¬ 2 ^ N - 1 = 0 by omega, fun _ => rfl⟩
theorem mu_start (hN : N ≤ 5) (hM : N * K * N ≤ 50) : muX N K (fun _ => 2 ^ N - 1) ≤ 50 := by
  have tab : ∀ N, N < 6 → pcN (2 ^ N - 1) ≤ N := by decide +kernel
  have := sumF_le (fun _ => pcN (2 ^ N - 1)) N (N * K) (fun i _ => tab N (by omega))
  show sumF (fun _ => pcN (2 ^ N - 1)) (N * K) ≤ 50
  omega
/-- proofs of both sides -/
theorem same_run (hN : 0 < N ∧ N ≤ 5) (hK : 1 ≤ K ∧ K ≤ 3) (hM : N * K * N ≤ 50) (hcs : ∀ k, k < n → cs k = cdC (Q k)) (hQ : ∀ k, k < n → okQ N K (Q k)) (hcl : ∀ k, k < n → rowOK cl k (Q k)) (s0 : PS) (w0 : WK) : ∃ X, grX N K X (runF N K n cs s0).1 (wkF N K n cl 76 (wk0 N w0)).1 ∧ (runF N K n cs s0).2.2.2.2.2.1 = (wkF N K n cl 76 (wk0 N w0)).2.2 ∧ (∀ k, k < (wkF N K n cl 76 (wk0 N w0)).2.2 → (wkF N K n cl 76 (wk0 N w0)).2.1 (4 * k) = (runF N K n cs s0).2.1 k ∧ (wkF N K n cl 76 (wk0 N w0)).2.1 (4 * k + 1) = (runF N K n cs s0).2.2.1 k ∧ (wkF N K n cl 76 (wk0 N w0)).2.1 (4 * k + 2) = (runF N K n cs s0).2.2.2.1 k ∧ (wkF N K n cl 76 (wk0 N w0)).2.1 (4 * k + 3) = (runF N K n cs s0).2.2.2.2.1 k) ∧ (runF N K n cs s0).2.2.2.2.2.2.1 = ratF N K (wkF N K n cl 76 (wk0 N w0)) ∧ (¬ ratF N K (wkF N K n cl 76 (wk0 N w0)) = 0 → ∀ i, i < N * K → pcN (X i) = 1) ∧ ∀ F, goodF N K n Q F → sndX N K F X := by
  have hmu := mu_start (K := K) hN.2 hM
  obtain ⟨X, ⟨r1, r2, r3, r4, _⟩, r6⟩ := sim hN hK hcs hQ hcl 50 76 _ _ _ (start_rel hN hK.2 s0 w0) hmu (by omega)
  obtain ⟨w, hw⟩ : ∃ w, w = wkF N K n cl 76 (wk0 N w0) := ⟨_, rfl⟩
  obtain ⟨s, hs⟩ : ∃ s, s = rnF N K n cs 50 (startF N K s0) := ⟨_, rfl⟩
  rw [← hw] at r1 r2 r3 r4 ⊢
  have hrun : runF N K n cs s0 = endF N K s := by rw [hs]; rfl
  rw [hrun]
  rw [← hs] at r1 r2 r3 r4
  have sol : solvedF N K s.1 = true ↔ ∀ i, i < N * K → pcN (X i) = 1 := by
    unfold solvedF
    rw [List.all_eq_true]
    constructor
    · intro h i hi
      have := of_decide_eq_true (h i (seg_mem.mpr ⟨i, hi, by omega⟩))
      rw [(r1 i hi).2.1] at this
      exact (bc_tab _ (lt_32 hN.2 (r1 i hi).1) 1 (by decide)).mp this
    · intro h i hi
      obtain ⟨j, hj, e⟩ := seg_mem.mp hi
      have hi' : i < N * K := by omega
      refine decide_eq_true ?_
      rw [(r1 i hi').2.1]
      exact (bc_tab _ (lt_32 hN.2 (r1 i hi').1) 1 (by decide)).mpr (h i hi')
  have solR : (segF id (5 * K) 0).any (solQ w.1 N) = true ↔ ¬ ∀ i, i < N * K → pcN (X i) = 1 := by
    rw [List.any_eq_true]
    constructor
    · rintro ⟨t, ht, hc⟩ hall
      obtain ⟨j, hj, e⟩ := seg_mem.mp ht
      have hc := of_decide_eq_true hc
      obtain ⟨i, hi, rfl⟩ := j5_of (t := t) (K := K) hN (by omega) hc.1
      obtain ⟨x1, _, x3⟩ := r1 i hi
      rw [x3, sz_tab _ (lt_32 hN.2 x1), hall i hi] at hc
      exact hc.2 rfl
    · intro hno
      obtain ⟨i, hi⟩ := Classical.not_forall.mp hno
      obtain ⟨hi, hne⟩ := Classical.not_imp.mp hi
      obtain ⟨x1, _, x3⟩ := r1 i hi
      refine ⟨j5 N i, seg_mem.mpr ⟨j5 N i, j5_lt2 hN hi, by omega⟩, decide_eq_true ⟨by rw [(j5_d hN i).2]; exact Nat.mod_lt _ hN.1, ?_⟩⟩
      rw [x3, sz_tab _ (lt_32 hN.2 x1)]
      have := pcN_le (X i)
      exact fun z => hne ((nI_eq (b := 1) (by omega) (by omega)).mp z)
  have hgood : ∀ F, goodF N K n Q F → sndX N K F X := by
    intro F hF
    refine r6 F hF (fun i hi => ?_)
    have hv : F.getD i 0 < N := hF.1.1 i (by rw [hF.2.1]; exact hi)
    show (2 ^ N - 1).testBit _ = true
    rw [Nat.testBit_two_pow_sub_one]
    exact decide_eq_true hv
  unfold endF ratF
  by_cases hsv : ∀ i, i < N * K → pcN (X i) = 1
  · rw [if_pos (sol.mpr hsv), if_neg (fun z => (solR.mp z) hsv)]
    exact ⟨X, r1, r2, r3, r4, fun _ => hsv, hgood⟩
  · rw [if_neg (fun z => hsv (sol.mp z)), if_pos (solR.mpr hsv)]
    exact ⟨X, r1, r2, r3, rfl, fun z => absurd rfl z, hgood⟩
end RUN
