-- a proof that settles every thing leaves one row of places: then nothing differs
theorem od_nd3 : (odL 3).Nodup := by decide +kernel
theorem od_nd4 : (odL 4).Nodup := by decide +kernel
set_option maxRecDepth 100000 in
theorem od_nd5 : (odL 5).Nodup := by decide +kernel
theorem od_nd {N : Nat} (h : 3 ≤ N ∧ N ≤ 5) : (odL N).Nodup := by
  have : N = 3 ∨ N = 4 ∨ N = 5 := by omega
  rcases this with rfl | rfl | rfl
  · exact od_nd3
  · exact od_nd4
  · exact od_nd5
theorem nd_getD {l : List (List Nat)} (h : l.Nodup) {i j : Nat} (hi : i < l.length) (hj : j < l.length) (e : l.getD i [] = l.getD j []) : i = j := by
  rw [List.getD_eq_getElem?_getD, List.getD_eq_getElem?_getD, List.getElem?_eq_getElem hi, List.getElem?_eq_getElem hj] at e
  exact (List.getElem_inj h).mp e
theorem fw_inj {N D : Nat} (hN : 3 ≤ N ∧ N ≤ 5) (hD : D = (odL N).length) (hD0 : 0 < D) : ∀ (K w v : Nat), w < D ^ K → v < D ^ K → fwL N D K w = fwL N D K v → w = v
  | 0, w, v, hw, hv, _ => by
    rw [Nat.pow_zero] at hw hv
    omega
  | K + 1, w, v, hw, hv, e => by
    have h1 : w % D < D := Nat.mod_lt _ hD0
    have h2 : v % D < D := Nat.mod_lt _ hD0
    have e' : (odL N).getD (w % D) [] ++ fwL N D K (w / D) = (odL N).getD (v % D) [] ++ fwL N D K (v / D) := e
    obtain ⟨e1, e2⟩ := List.append_inj e' (by rw [odL_row (by rw [← hD]; exact h1), odL_row (by rw [← hD]; exact h2)])
    have m := nd_getD (od_nd hN) (by rw [← hD]; exact h1) (by rw [← hD]; exact h2) e1
    rw [Nat.pow_succ] at hw hv
    have d := fw_inj hN hD hD0 K (w / D) (v / D) ((Nat.div_lt_iff_lt_mul hD0).mpr hw) ((Nat.div_lt_iff_lt_mul hD0).mpr hv) e2
    rw [← Nat.div_add_mod w D, ← Nat.div_add_mod v D, m, d]
theorem two_of {f : Nat → Int32} {g : Nat → List Nat} : ∀ (l : List Nat), l.Nodup → 2 ≤ (l.filterMap (fun w => if f w = 0 then none else some (g w, f w))).length → ∃ w v, w ∈ l ∧ v ∈ l ∧ w ≠ v ∧ ¬ f w = 0 ∧ ¬ f v = 0
  | [], _, h => by simp at h
  | w :: l, hd, h => by
    rw [List.nodup_cons] at hd
    by_cases h0 : f w = 0
    · rw [fmw_n h0] at h
      obtain ⟨a, b, h1, h2, h3⟩ := two_of l hd.2 h
      exact ⟨a, b, List.mem_cons_of_mem _ h1, List.mem_cons_of_mem _ h2, h3⟩
    · rw [fmw_s h0, List.length_cons] at h
      have : l.filterMap (fun w => if f w = 0 then none else some (g w, f w)) ≠ [] := by
        intro e
        rw [e] at h
        simp at h
      obtain ⟨q, hq⟩ := List.exists_mem_of_ne_nil _ this
      obtain ⟨v, hv, e⟩ := List.mem_filterMap.mp hq
      have hv0 : ¬ f v = 0 := by
        intro z
        rw [if_pos z] at e
        cases e
      refine ⟨w, v, List.mem_cons_self, List.mem_cons_of_mem _ hv, fun z => ?_, h0, hv0⟩
      rw [z] at hd
      exact hd.1 hv
theorem pc1_tab : ∀ x, x < 32 → ∀ a, a < 5 → ∀ b, b < 5 → (pcN x == 1 && x.testBit a && x.testBit b && a != b) = false := by decide +kernel
theorem getD_ext : ∀ {F G : List Nat}, F.length = G.length → (∀ i, i < F.length → F.getD i 0 = G.getD i 0) → F = G
  | [], [], _, _ => rfl
  | [], _ :: _, h, _ => by simp at h
  | _ :: _, [], h, _ => by simp at h
  | a :: F, b :: G, h, hi => by
    have h0 : a = b := hi 0 (Nat.succ_pos _)
    rw [h0]
    congr 1
    exact getD_ext (Nat.succ.inj h) (fun i hl => hi (i + 1) (Nat.succ_lt_succ hl))
section ONE
variable {N K D n : Nat} {Q : Nat → Clue} {cs cl od : Nat → Int32}
theorem res_good {L : List (Bool × Int32)} (h : ¬ resL L = 0) {c : Bool × Int32} (hc : c ∈ L) (hs : c.2 = -1) : c.1 = true := by
  cases hb : c.1 with
  | true => rfl
  | false =>
    exfalso
    apply h
    have : anyC (-1) false L = true := by
      unfold anyC
      rw [List.any_eq_true]
      exact ⟨c, hc, by rw [hs, hb]; rfl⟩
    unfold resL
    rw [this]
    exact res_c
theorem world_good (hB : bothQ N K D n Q cs cl od) (hn : n ≤ 30) (pl : Nat → Int32) {w : Nat} (hw : w < D ^ K) (h : ¬ spW N K D n od cl pl (-1) w = 0) : goodF N K n Q (fwL N D K w) := by
  obtain ⟨hN, hK, hD0, hDK, ho, hcs, hQ, hcl⟩ := hB
  have hN0 : 0 < N ∧ N ≤ 5 := ⟨by omega, hN.2⟩
  refine ⟨fw_ok hN ho.1 hD0 hw, fwL_len ho.1 hD0 K w, fun k hk hs => ?_⟩
  rw [sp_hc hN hK.2 hD0 ho hcs hQ hcl hw] at h
  have s2 : ∀ c ∈ hqL N Q (fwL N D K w) ((List.range' 0 (N * K)).flatMap (dueI (dueS (nI N) cs (-1)) n)), spOK c := by
    intro c hc
    obtain ⟨k, h1, h2⟩ := List.mem_map.mp hc
    rw [← h2]
    exact (hQ k ((due_mem hN0 hK.2 hcs hQ).mp h1).1).2.2.2.2.2
  have e : hcF N K n Q cs (-1) (fwL N D K w) = resL (hqL N Q (fwL N D K w) ((List.range' 0 (N * K)).flatMap (dueI (dueS (nI N) cs (-1)) n))) := hear_15 _ s2
  rw [e] at h
  have hm : k ∈ (List.range' 0 (N * K)).flatMap (dueI (dueS (nI N) cs (-1)) n) := (due_mem hN0 hK.2 hcs hQ).mpr ⟨hk, fun z => by
    have : (nI k).toInt = -1 := by rw [z]; rfl
    rw [nI_toInt (by omega)] at this
    omega⟩
  exact res_good h (List.mem_map.mpr ⟨k, hm, rfl⟩) hs
/-- where the rating is not 0 nothing differs -/
theorem rated_one (hB : bothQ N K D n Q cs cl od) (hn : n ≤ 30) (hM : N * K * N ≤ 50) (pl : Nat → Int32) (w0 : WK) (h : ¬ ratF N K (wkF N K n cl 76 (wk0 N w0)) = 0) : difF N K D n od cl pl (-1) = false := by
  have hB' := hB
  obtain ⟨hN, hK, hD0, hDK, ho, hcs, hQ, hcl⟩ := hB
  have hN0 : 0 < N ∧ N ≤ 5 := ⟨by omega, hN.2⟩
  obtain ⟨X, r1, _, _, _, r5, r6⟩ := same_run hN0 hK hM hcs hQ hcl ((fun _ => 0), (fun _ => 0), (fun _ => 0), (fun _ => 0), (fun _ => 0), 0, 0, 0) w0
  have h1 := r5 h
  cases hd : difF N K D n od cl pl (-1) with
  | false => rfl
  | true =>
    exfalso
    unfold difF at hd
    rw [difR_len _ (fwL N D K)] at hd
    have hd := of_decide_eq_true hd
    have hd2 : 2 ≤ ((List.range' 0 (D ^ K)).filterMap (fun w => if spW N K D n od cl pl (-1) w = 0 then none else some (fwL N D K w, spW N K D n od cl pl (-1) w))).length := by
      have : false.toNat = 0 := rfl
      omega
    obtain ⟨w, v, hw, hv, hne, w0', v0'⟩ := two_of (List.range' 0 (D ^ K)) (List.nodup_range' (step := 1) (by omega)) hd2
    have hwD : w < D ^ K := by
      have := List.mem_range'_1.mp hw
      omega
    have hvD : v < D ^ K := by
      have := List.mem_range'_1.mp hv
      omega
    have gw := world_good hB' hn pl hwD w0'
    have gv := world_good hB' hn pl hvD v0'
    have sw := r6 _ gw
    have sv := r6 _ gv
    apply hne
    refine fw_inj hN ho.1 hD0 K w v hwD hvD (getD_ext (by rw [gw.2.1, gv.2.1]) (fun i hi => ?_))
    have hi' : i < N * K := by rw [gw.2.1] at hi; exact hi
    have hvlt := gv.1.1 i (by rw [gv.2.1]; exact hi')
    have hwlt := gw.1.1 i hi
    have ht := pc1_tab _ (lt_32 hN0.2 (r1 i hi').1) _ (show (fwL N D K w).getD i 0 < 5 by omega) _ (show (fwL N D K v).getD i 0 < 5 by omega)
    rw [h1 i hi', sw i hi', sv i hi'] at ht
    refine Classical.byContradiction fun hc => ?_
    rw [bne_iff_ne.mpr hc] at ht
    exact absurd ht (by decide)
end ONE
