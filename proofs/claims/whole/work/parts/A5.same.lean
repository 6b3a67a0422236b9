-- count, differ, answer: the seeker and the reference answer alike
def okV (s : Int32) : Prop := ∃ bad b0 b1 b2 b3 : Bool, s = resB bad b0 b1 b2 b3 ∧ ¬ s = 0
theorem okV_tab : ∀ bad b0 b1 b2 b3 : Bool, ¬ resB bad b0 b1 b2 b3 = 0 → cntF (resB bad b0 b1 b2 b3) = nI (cwF (resB bad b0 b1 b2 b3)) ∧ 1 ≤ cwF (resB bad b0 b1 b2 b3) ∧ cwF (resB bad b0 b1 b2 b3) ≤ 4 := by decide +kernel
theorem okV_cnt {s : Int32} (h : okV s) : cntF s = nI (cwF s) ∧ 1 ≤ cwF s ∧ cwF s ≤ 4 := by
  obtain ⟨bad, b0, b1, b2, b3, rfl, h0⟩ := h
  exact okV_tab bad b0 b1 b2 b3 h0
theorem cntR_min (f : Nat → Int32) (L : Nat) : ∀ (m w all : Nat), min L (cntR f L m w all) = min L (all + ((List.range' w m).map (fun j => cwF (f j))).sum)
  | 0, w, all => by simp [cntR]
  | m + 1, w, all => by
    unfold cntR
    rw [List.range'_succ, List.map_cons, List.sum_cons]
    by_cases h : L ≤ all
    · rw [if_pos h]
      omega
    · rw [if_neg h, cntR_min f L m (w + 1)]
      congr 1
      omega
theorem fmw_n {f : Nat → Int32} {g : Nat → List Nat} {w : Nat} {l : List Nat} (h : f w = 0) : (w :: l).filterMap (fun w => if f w = 0 then none else some (g w, f w)) = l.filterMap (fun w => if f w = 0 then none else some (g w, f w)) := by
  rw [List.filterMap_cons, if_pos h]
theorem fmw_s {f : Nat → Int32} {g : Nat → List Nat} {w : Nat} {l : List Nat} (h : ¬ f w = 0) : (w :: l).filterMap (fun w => if f w = 0 then none else some (g w, f w)) = (g w, f w) :: l.filterMap (fun w => if f w = 0 then none else some (g w, f w)) := by
  rw [List.filterMap_cons, if_neg h]
theorem sum_fm (f : Nat → Int32) (g : Nat → List Nat) : ∀ l : List Nat, ((l.filterMap (fun w => if f w = 0 then none else some (g w, f w))).map (fun q => cwF q.2)).sum = (l.map (fun w => cwF (f w))).sum
  | [] => rfl
  | w :: l => by
    rw [List.map_cons, List.sum_cons, ← sum_fm f g l]
    by_cases h : f w = 0
    · rw [fmw_n h, h]
      show _ = cwF 0 + _
      rw [show cwF 0 = 0 by decide, Nat.zero_add]
    · rw [fmw_s h, List.map_cons, List.sum_cons]
theorem one_m : (1000000 : Int32) = nI 1000000 := rfl
theorem seen_m1 (pa : Nat → Int32) (s old : Int32) : seenF (-1) pa s old = old := rfl
theorem many_0 : manyF 0 = false := by decide
theorem number_st (N X : Nat) (hX : X < 2 ^ 31) : ∀ (L : List (List Nat × Int32)) (a p : Nat), (∀ q ∈ L, okV q.2) → p + L.length < 1000000 → a < X → a + 4 * L.length < 2 ^ 31 → ∃ a', (stF N (nI X) 1000000 (-1) L (nI a, nI p, 0, 0)).1 = nI a' ∧ a' < 2 ^ 31 ∧ min a' X = min (a + (L.map (fun q => cwF q.2)).sum) X
  | [], a, p, _, _, h, h2 => ⟨a, rfl, by simp at h2; omega, by simp⟩
  | q :: L, a, p, hv, hp, ha, hb => by
    rw [List.length_cons] at hp hb
    obtain ⟨c1, c2, c3⟩ := okV_cnt (hv q List.mem_cons_self)
    rw [List.map_cons, List.sum_cons]
    have e : tkS N (nI X) 1000000 (-1) (nI a, nI p, 0, 0) q = (nI (a + cwF q.2), nI (p + 1), 0, bI (decide (nI X ≤ nI (a + cwF q.2)) || decide ((1000000 : Int32) ≤ nI (p + 1)) || false)) := by
      show takeC (nI X) 1000000 (-1) (paN N q.1) q.2 (nI a, nI p, 0, 0) = _
      unfold takeC
      show (nI a + cntF q.2, nI p + 1, (0 : Int32), bI (decide (nI X ≤ nI a + cntF q.2) || decide ((1000000 : Int32) ≤ nI p + 1) || manyF 0)) = _
      rw [c1, nI_add, nI_1, many_0]
    have e2 : decide ((1000000 : Int32) ≤ nI (p + 1)) = false := decide_eq_false (by rw [one_m]; exact nI_ge (by omega) (by omega))
    rw [e2] at e
    show ∃ a', (stF N (nI X) 1000000 (-1) L (tkS N (nI X) 1000000 (-1) (nI a, nI p, 0, 0) q)).1 = nI a' ∧ _
    rw [e]
    by_cases h1 : X ≤ a + cwF q.2
    · rw [decide_eq_true (nI_le h1 (by omega))]
      rw [stF_stop _ _ _ _ _ _ (show ¬ bI (true || false || false) = 0 by decide)]
      exact ⟨a + cwF q.2, rfl, by omega, by omega⟩
    · rw [decide_eq_false (nI_ge (by omega) hX)]
      obtain ⟨a', h3, h4, h5⟩ := number_st N X hX L (a + cwF q.2) (p + 1) (fun r hr => hv r (List.mem_cons_of_mem _ hr)) (by omega) (by omega) (by omega)
      exact ⟨a', h3, h4, by rw [h5]; congr 1; omega⟩
theorem differ_st (N : Nat) : ∀ (L : List (List Nat × Int32)) (a p : Nat), (∀ q ∈ L, okV q.2) → p ≤ 1 → a + 4 * L.length < 1000000 → ∃ p', (stF N 1000000 2 (-1) L (nI a, nI p, 0, 0)).2.1 = nI p' ∧ p' ≤ 2 ∧ (2 ≤ p' ↔ 2 ≤ p + L.length)
  | [], a, p, _, h, h2 => ⟨p, rfl, by omega, by simp⟩
  | q :: L, a, p, hv, hp, hb => by
    rw [List.length_cons] at hb
    rw [List.length_cons]
    obtain ⟨c1, c2, c3⟩ := okV_cnt (hv q List.mem_cons_self)
    have e : tkS N 1000000 2 (-1) (nI a, nI p, 0, 0) q = (nI (a + cwF q.2), nI (p + 1), 0, bI (decide ((1000000 : Int32) ≤ nI (a + cwF q.2)) || decide ((2 : Int32) ≤ nI (p + 1)) || false)) := by
      show takeC 1000000 2 (-1) (paN N q.1) q.2 (nI a, nI p, 0, 0) = _
      unfold takeC
      show (nI a + cntF q.2, nI p + 1, (0 : Int32), bI (decide ((1000000 : Int32) ≤ nI a + cntF q.2) || decide ((2 : Int32) ≤ nI p + 1) || manyF 0)) = _
      rw [c1, nI_add, nI_1, many_0]
    have e2 : decide ((1000000 : Int32) ≤ nI (a + cwF q.2)) = false := decide_eq_false (by rw [one_m]; exact nI_ge (by omega) (by omega))
    rw [e2] at e
    show ∃ p', (stF N 1000000 2 (-1) L (tkS N 1000000 2 (-1) (nI a, nI p, 0, 0) q)).2.1 = nI p' ∧ _
    rw [e]
    by_cases h1 : 1 ≤ p
    · rw [decide_eq_true (show (2 : Int32) ≤ nI (p + 1) from nI_le (a := 2) (by omega) (by omega))]
      rw [stF_stop _ _ _ _ _ _ (show ¬ bI (false || true || false) = 0 by decide)]
      exact ⟨p + 1, rfl, by omega, by omega⟩
    · rw [decide_eq_false (show ¬ (2 : Int32) ≤ nI (p + 1) from nI_ge (b := 2) (by omega) (by omega))]
      obtain ⟨p', h3, h4, h5⟩ := differ_st N L (a + cwF q.2) (p + 1) (fun r hr => hv r (List.mem_cons_of_mem _ hr)) (by omega) (by omega)
      exact ⟨p', h3, h4, by rw [h5]; constructor <;> (intro; omega)⟩
theorem difR_len (f : Nat → Int32) (g : Nat → List Nat) : ∀ (m w : Nat) (one : Bool), difR f m w one = decide (2 ≤ one.toNat + ((List.range' w m).filterMap (fun w => if f w = 0 then none else some (g w, f w))).length)
  | 0, w, one => by cases one <;> simp [difR]
  | m + 1, w, one => by
    unfold difR
    rw [List.range'_succ]
    by_cases h : f w = 0
    · rw [if_pos h, fmw_n h]
      exact difR_len f g m (w + 1) one
    · rw [if_neg h, fmw_s h, List.length_cons]
      cases one with
      | true =>
        rw [if_pos rfl]
        refine (decide_eq_true ?_).symm
        show 2 ≤ 1 + _
        omega
      | false =>
        rw [if_neg Bool.false_ne_true, difR_len f g m (w + 1) true]
        refine decide_eq_decide.mpr ?_
        show 2 ≤ 1 + _ ↔ 2 ≤ 0 + _
        omega
section SAME
variable {N K D n : Nat} {Q : Nat → Clue} {cs cl od pl : Nat → Int32} {sk : Int32}
theorem rw_mem {f : Nat → Int32} {q : List Nat × Int32} (h : q ∈ rwL2 N K D f) : ∃ w, w < D ^ K ∧ ¬ f w = 0 ∧ q = (fwL N D K w, f w) := by
  obtain ⟨w, h1, h2⟩ := List.mem_filterMap.mp h
  by_cases h0 : f w = 0
  · rw [if_pos h0] at h2
    cases h2
  · rw [if_neg h0] at h2
    cases h2
    exact ⟨w, List.mem_range.mp h1, h0, rfl⟩
theorem hc_okV (hN : 0 < N ∧ N ≤ 5) (hK : K ≤ 3) (hcs : ∀ k, k < n → cs k = cdC (Q k)) (hQ : ∀ k, k < n → okQ N K (Q k)) {F : List Nat} (h : ¬ hcF N K n Q cs sk F = 0) : okV (hcF N K n Q cs sk F) := by
  have s2 : ∀ c ∈ hqL N Q F ((List.range' 0 (N * K)).flatMap (dueI (dueS (nI N) cs sk) n)), spOK c := by
    intro c hc
    obtain ⟨k, h1, h2⟩ := List.mem_map.mp hc
    rw [← h2]
    exact (hQ k ((due_mem hN hK hcs hQ).mp h1).1).2.2.2.2.2
  have e : hcF N K n Q cs sk F = resL (hqL N Q F ((List.range' 0 (N * K)).flatMap (dueI (dueS (nI N) cs sk) n))) := hear_15 _ s2
  rw [e] at h ⊢
  exact ⟨_, _, _, _, _, rfl, h⟩
/-- what both sides begin from -/
def bothQ (N K D n : Nat) (Q : Nat → Clue) (cs cl od : Nat → Int32) : Prop := (3 ≤ N ∧ N ≤ 5) ∧ (1 ≤ K ∧ K ≤ 3) ∧ 0 < D ∧ D ^ K ≤ 14400 ∧ odOK N D od ∧ (∀ k, k < n → cs k = cdC (Q k)) ∧ (∀ k, k < n → okQ N K (Q k)) ∧ ∀ k, k < n → rowOK cl k (Q k)
theorem leaf_ok (hB : bothQ N K D n Q cs cl od) (pl : Nat → Int32) {q : List Nat × Int32} (h : q ∈ lvL N Q (dueI (dueS (nI N) cs sk) n) (N * K) [] 15) : okV q.2 ∧ ∃ w, w < D ^ K ∧ ¬ spW N K D n od cl pl sk w = 0 ∧ q = (fwL N D K w, spW N K D n od cl pl sk w) := by
  obtain ⟨hN, hK, hD0, hDK, ho, hcs, hQ, hcl⟩ := hB
  have h1 := (leaves_perm (pl := pl) hN hK.2 hD0 ho hcs hQ hcl).mem_iff.mp h
  obtain ⟨w, hw, h0, e⟩ := rw_mem h1
  refine ⟨?_, w, hw, h0, e⟩
  rw [e]
  show okV (spW N K D n od cl pl sk w)
  rw [sp_hc hN hK.2 hD0 ho hcs hQ hcl hw] at h0 ⊢
  exact hc_okV ⟨by omega, hN.2⟩ hK.2 hcs hQ h0
theorem leaf_len (hB : bothQ N K D n Q cs cl od) : (lvL N Q (dueI (dueS (nI N) cs sk) n) (N * K) [] 15).length ≤ 14400 := by
  obtain ⟨hN, hK, hD0, hDK, ho, hcs, hQ, hcl⟩ := hB
  rw [(leaves_perm (pl := fun _ => 0) hN hK.2 hD0 ho hcs hQ hcl).length_eq]
  refine Nat.le_trans (List.length_filterMap_le _ _) ?_
  rw [List.length_range]
  exact hDK
/-- count -/
theorem same_count (hB : bothQ N K D n Q cs cl od) (pl pa pw pt : Nat → Int32) (hpt : ∀ j, pt j = 0) (X : Nat) (hX : X < 2 ^ 31) : (if (0 : Int32) < nI X then minF (plRun N K n cs (-1) (nI X) 1000000 (-1) pa pw pt).2.2.2.1 (nI X) else 0) = nI (min X (cntG N K D n od cl pl X)) := by
  have hl := leaf_len (sk := -1) hB
  have hlo := fun q (h : q ∈ lvL N Q (dueI (dueS (nI N) cs (-1)) n) (N * K) [] 15) => (leaf_ok hB pl h).1
  obtain ⟨hN, hK, hD0, hDK, ho, hcs, hQ, hcl⟩ := hB
  have hN0 : 0 < N ∧ N ≤ 5 := ⟨by omega, hN.2⟩
  have hs : ((lvL N Q (dueI (dueS (nI N) cs (-1)) n) (N * K) [] 15).map (fun q => cwF q.2)).sum = ((List.range' 0 (D ^ K)).map (fun j => cwF (spW N K D n od cl pl (-1) j))).sum := by
    rw [((leaves_perm (sk := -1) (pl := pl) hN hK.2 hD0 ho hcs hQ hcl).map _).sum_nat]
    unfold rwL2
    rw [sum_fm, List.range_eq_range']
  unfold cntG
  rw [cntR_min, Nat.zero_add, ← hs]
  by_cases h0 : 0 < X
  · rw [if_pos (show (0 : Int32) < nI X from nI_lt h0 hX), plRun_lv hN0 hK.2 hcs hQ (nI X) 1000000 (-1) (Or.inl (by decide)) pa pw pt hpt]
    obtain ⟨a', h1, h2, h3⟩ := number_st N X hX _ 0 0 hlo (by omega) h0 (by omega)
    have h1' : (stF N (nI X) 1000000 (-1) (lvL N Q (dueI (dueS (nI N) cs (-1)) n) (N * K) [] 15) (0, 0, 0, 0)).1 = nI a' := h1
    rw [h1']
    rw [Nat.zero_add] at h3
    rw [Nat.min_comm X, ← h3]
    unfold minF
    by_cases h4 : X < a'
    · rw [if_pos (nI_lt h4 h2), Nat.min_eq_right (by omega)]
    · rw [if_neg (nI_nlt (by omega) hX), Nat.min_eq_left (by omega)]
  · have : X = 0 := by omega
    rw [this, if_neg (by decide), Nat.zero_min]
    rfl
/-- differ -/
theorem same_differ (hB : bothQ N K D n Q cs cl od) (pl pa pw pt : Nat → Int32) (hpt : ∀ j, pt j = 0) (sk : Int32) : decide ((2 : Int32) ≤ (plRun N K n cs sk 1000000 2 (-1) pa pw pt).2.2.2.2.1) = difF N K D n od cl pl sk := by
  have hl := leaf_len (sk := sk) hB
  have hlo := fun q (h : q ∈ lvL N Q (dueI (dueS (nI N) cs sk) n) (N * K) [] 15) => (leaf_ok hB pl h).1
  obtain ⟨hN, hK, hD0, hDK, ho, hcs, hQ, hcl⟩ := hB
  have hN0 : 0 < N ∧ N ≤ 5 := ⟨by omega, hN.2⟩
  rw [plRun_lv hN0 hK.2 hcs hQ 1000000 2 (-1) (Or.inl (by decide)) pa pw pt hpt]
  obtain ⟨p', h1, h2, h3⟩ := differ_st N _ 0 0 hlo (by omega) (by omega)
  have h1' : (stF N 1000000 2 (-1) (lvL N Q (dueI (dueS (nI N) cs sk) n) (N * K) [] 15) (0, 0, 0, 0)).2.1 = nI p' := h1
  rw [h1']
  unfold difF
  rw [difR_len _ (fwL N D K), ← List.range_eq_range']
  refine decide_eq_decide.mpr ?_
  rw [show (2 : Int32) = nI 2 from rfl, nI_leI (by omega) (by omega), h3, (leaves_perm (sk := sk) (pl := pl) hN hK.2 hD0 ho hcs hQ hcl).length_eq]
  rfl
end SAME
