-- the relation behind prove, name, print, type; answers
section REL
variable {N K D : Nat} {od : Nat → Int32} {wd : Nat → Int64} {s : RMS} {a : RA} {n : RN} {i : RI}
theorem nk50 (h : okNK N K) : N * K * N ≤ 50 := by
  obtain ⟨h1, h2, h3, h4, h5⟩ := h
  have hN : N = 3 ∨ N = 4 ∨ N = 5 := by omega
  have hK : K = 1 ∨ K = 2 ∨ K = 3 := by omega
  rcases hN with rfl | rfl | rfl <;> rcases hK with rfl | rfl | rfl <;> first | decide | (exfalso; have := h5 rfl; omega)
theorem rel_rows (hr : rel N K D od s a n i) : ∃ Q, rowsQ N K n.1 Q a.1 := by
  obtain ⟨Q, B, L, T, hB, hn, -⟩ := hr
  exact ⟨Q, by rw [hn]; exact ⟨hB.2.2.2.2.2.2.2, hB.2.2.2.2.2.2.1⟩⟩
theorem rel_run (hNK : okNK N K) (hr : rel N K D od s a n i) (s0 : PS) (w0 : WK) : (runF N K s.1.1 s.1.2 s0).2.2.2.2.2.1 = (wkF N K n.1 a.1 76 (wk0 N w0)).2.2 ∧ (runF N K s.1.1 s.1.2 s0).2.2.2.2.2.2.1 = ratF N K (wkF N K n.1 a.1 76 (wk0 N w0)) ∧ ∀ pv pg, pfR N K (runF N K s.1.1 s.1.2 s0) (cpF (wkF N K n.1 a.1 76 (wk0 N w0)).2.1 pv (4 * (wkF N K n.1 a.1 76 (wk0 N w0)).2.2)) (cpF (wkF N K n.1 a.1 76 (wk0 N w0)).1 pg 15) (wkF N K n.1 a.1 76 (wk0 N w0)).2.2 := by
  obtain ⟨Q, B, L, T, hB, hn, -⟩ := hr
  have hN : 0 < N ∧ N ≤ 5 := ⟨by have := hNK.1; omega, hNK.2.1⟩
  obtain ⟨-, -, -, -, -, hcs, hQ, hcl⟩ := hB
  obtain ⟨X, x1, x2, x3, x4, -⟩ := same_run hN ⟨hNK.2.2.1, hNK.2.2.2.1⟩ (nk50 hNK) hcs hQ hcl s0 w0
  rw [hn]
  refine ⟨x2, x4, fun pv pg => ⟨x2, by rw [← x2]; exact runF_len _ _ _ _ _, fun k hk => ?_, fun j hj => ?_⟩⟩
  · obtain ⟨y1, y2, y3, y4⟩ := x3 k hk
    unfold cpF
    rw [if_pos (by omega), if_pos (by omega), if_pos (by omega), if_pos (by omega)]
    exact ⟨y1, y2, y3, y4⟩
  · obtain ⟨-, y1, y2⟩ := x1 j hj
    unfold cpF
    rw [if_pos (j5_lt hN hNK.2.2.2.1 hj), y1, y2]
theorem rel_pf (hr : rel N K D od s a n i) {t : PS} {pv pg : Nat → Int32} {ps : Nat} (hp : pfR N K t pv pg ps) {x y z : Nat → Int32} {q q2 : Nat} {i0 : Int32} : rel N K D od (s.1, s.2.1, t, s.2.2.2) (a.1, a.2.1, x, y, pv, z, pg, a.2.2.2.2.2.2.2) (n.1, q, ps, n.2.2.2) (i0, i.2) := by
  obtain ⟨Q, B, L, T, hB, hn, hnm, hl, hx, hfa, hpf⟩ := hr
  exact ⟨Q, B, L, T, hB, hn, hnm, hl, hx, hfa, hp⟩
theorem rel_answer (hNK : okNK N K) (hr : rel N K D od s a n i) (x : Int32) {pa pw pt : Nat → Int32} (hpt : ∀ j, pt j = 0) (hx : x = 0 ∨ x = 1 ∨ thingB (nI N) (nI K) x = true) : (if (plRun N K s.1.1 s.1.2 (-1) 1000000 1000000 x pa pw pt).2.2.2.2.2.1 = 0 ∨ manyF (plRun N K s.1.1 s.1.2 (-1) 1000000 1000000 x pa pw pt).2.2.2.2.2.1 = true then -1 else bcF ((plRun N K s.1.1 s.1.2 (-1) 1000000 1000000 x pa pw pt).2.2.2.2.2.1 - 1)) = ansF N K D n.1 od a.1 a.2.2.1 x := by
  obtain ⟨Q, B, L, T, hB, hn, -⟩ := hr
  have hN : 0 < N ∧ N ≤ 5 := ⟨by have := hNK.1; omega, hNK.2.1⟩
  have h2 := same_alike hB a.2.2.1 pa pw pt hpt x (by
    rcases hx with e | e | e
    · exact Or.inl (Or.inl e)
    · exact Or.inl (Or.inr e)
    · exact Or.inr ((thing_iff hN hNK.2.2.2.1 x).mp e))
  unfold ansF
  rw [if_pos hx, hn, ← h2]
  rfl
theorem rel_answerN (x : Int32) (cl pl : Nat → Int32) (c : Nat) (x0 : ¬ x = 0) (x1 : ¬ x = 1) (hx : thingB (nI N) (nI K) x = false) : ansF N K D c od cl pl x = -1 := by
  unfold ansF
  rw [if_neg]
  rintro (e | e | e)
  · exact x0 e
  · exact x1 e
  · rw [hx] at e; cases e
theorem nm_no {nm : Nat → Int64} {x : Int32} {w : Int64} (h : ¬ thingB (nI N) (nI K) x = true) : nmF (nI N) (nI K) wd nm x w = false := by
  have h2 : thingB (nI N) (nI K) x = false := Bool.not_eq_true _ ▸ h
  unfold nmF
  split
  · rfl
  · unfold nmE
    simp [h2]
theorem rel_name (hNK : okNK N K) (hr : rel N K D od s a n i) (hwd : ∀ k, k < 15 → wd k = wdF k) (x : Int32) (w : Int64) (h : nmF (nI N) (nI K) wd a.2.2.2.2.2.2.2.1 x w = true) {i0 : Int32} : (thingB (nI N) (nI K) x && (gnF s.2.2.2.1 x w).isSome) = true ∧ rel N K D od (s.1, s.2.1, s.2.2.1, if thingB (nI N) (nI K) x = true then gnS x s.2.2.2 (gnF s.2.2.2.1 x w) else s.2.2.2) (a.1, a.2.1, a.2.2.1, a.2.2.2.1, a.2.2.2.2.1, a.2.2.2.2.2.1, a.2.2.2.2.2.2.1, vp_updL a.2.2.2.2.2.2.2.1 (idxF x).toNatClampNeg (leS w 8 0), a.2.2.2.2.2.2.2.2) n (i0, i.2) := by
  obtain ⟨Q, B, L, T, hB, hn, hnm, hl, hx, hfa, hpf⟩ := hr
  have hN : 0 < N ∧ N ≤ 5 := ⟨by have := hNK.1; omega, hNK.2.1⟩
  by_cases ht : thingB (nI N) (nI K) x = true
  · obtain ⟨j, hj, rfl⟩ := (thing_iff hN hNK.2.2.2.1 x).mp ht
    obtain ⟨e1, e2⟩ := same_name hN hNK.2.2.2.1 hnm wd hwd hj w
    rw [h] at e1
    rw [ht, e1, if_pos rfl]
    cases hg : gnF s.2.2.2.1 (nI (tAt N j)) w with
    | none => rw [hg] at e1; cases e1
    | some v =>
      obtain ⟨rfl, bs, e3⟩ := e2 v hg
      have h1 := tAt_lt hN hNK.2.2.2.1 hj
      have h2 := j5_lt hN hNK.2.2.2.1 hj
      have c1 : (nI (tAt N j)).toNatClampNeg = tAt N j := nI_clamp (by omega)
      have c2 : (idxF (nI (tAt N j))).toNatClampNeg = j5 N j := by
        rw [idx_t hN hNK.2.2.2.1 hj]
        exact nI_clamp (show j5 N j < 2 ^ 31 by omega)
      unfold gnS
      rw [c1, c2]
      exact ⟨rfl, Q, updB B j bs, L, T, hB, hn, e3, hl, hx, hfa, hpf⟩
  · rw [nm_no ht] at h
    cases h
theorem rel_nameN (hNK : okNK N K) (hr : rel N K D od s a n i) (hwd : ∀ k, k < 15 → wd k = wdF k) (x : Int32) (w : Int64) (h : nmF (nI N) (nI K) wd a.2.2.2.2.2.2.2.1 x w = false) : (thingB (nI N) (nI K) x && (gnF s.2.2.2.1 x w).isSome) = false ∧ (if thingB (nI N) (nI K) x = true then gnS x s.2.2.2 (gnF s.2.2.2.1 x w) else s.2.2.2) = s.2.2.2 := by
  obtain ⟨Q, B, L, T, hB, hn, hnm, -⟩ := hr
  have hN : 0 < N ∧ N ≤ 5 := ⟨by have := hNK.1; omega, hNK.2.1⟩
  by_cases ht : thingB (nI N) (nI K) x = true
  · obtain ⟨j, hj, rfl⟩ := (thing_iff hN hNK.2.2.2.1 x).mp ht
    obtain ⟨e1, -⟩ := same_name hN hNK.2.2.2.1 hnm wd hwd hj w
    rw [h] at e1
    rw [ht, e1, if_pos rfl]
    cases hg : gnF s.2.2.2.1 (nI (tAt N j)) w with
    | none => exact ⟨rfl, rfl⟩
    | some v => rw [hg] at e1; cases e1
  · have h2 : thingB (nI N) (nI K) x = false := Bool.not_eq_true _ ▸ ht
    rw [h2]
    exact ⟨rfl, rfl⟩
theorem rel_type (hr : rel N K D od s a n i) (w : Int64) {i0 : Int32} : (tyB w n.2.2.2.2.1 = false ∧ apF w s.2.2.2 = (-1, s.2.2.2)) ∨ (tyB w n.2.2.2.2.1 = true ∧ (apF w s.2.2.2).1 = nI (shBw w 8 (a.2.2.2.2.2.2.2.2.2.1, n.2.2.2.2.1)).2 ∧ rel N K D od (s.1, s.2.1, s.2.2.1, (apF w s.2.2.2).2) (a.1, a.2.1, a.2.2.1, a.2.2.2.1, a.2.2.2.2.1, a.2.2.2.2.2.1, a.2.2.2.2.2.2.1, a.2.2.2.2.2.2.2.1, a.2.2.2.2.2.2.2.2.1, (shBw w 8 (a.2.2.2.2.2.2.2.2.2.1, n.2.2.2.2.1)).1, a.2.2.2.2.2.2.2.2.2.2) (n.1, n.2.1, n.2.2.1, n.2.2.2.1, (shBw w 8 (a.2.2.2.2.2.2.2.2.2.1, n.2.2.2.2.1)).2, n.2.2.2.2.2) (i0, i.2)) := by
  obtain ⟨Q, B, L, T, hB, hn, hnm, ⟨hl1, hl2⟩, hx, hfa, hpf⟩ := hr
  rcases same_type (s := s.2.2.2) (t := (a.2.2.2.2.2.2.2.2.2.1, n.2.2.2.2.1)) hl1 hl2 w with e | ⟨e1, L', e2, e3, e4, e5⟩
  · exact Or.inl e
  · refine Or.inr ⟨e1, e4, ?_⟩
    rw [e5]
    exact ⟨Q, B, L', T, hB, hn, hnm, ⟨e2, e3⟩, hx, hfa, hpf⟩
theorem rel_print (hNK : okNK N K) (hr : rel N K D od s a n i) {y : Nat} (hy : y < s.1.1) (h30 : s.1.1 ≤ 30) {i0 : Int32} : ∃ kk, kk < 10 ∧ kindF (s.1.2 y) = nI kk ∧ ((lackQ s.2.2.2.1 (s.1.2 y) = true ∧ prC a.2.2.2.2.2.2.2.1 a.1 n.1 (nI y) = false) ∨ (lackQ s.2.2.2.1 (s.1.2 y) = false ∧ prC a.2.2.2.2.2.2.2.1 a.1 n.1 (nI y) = true ∧ (shF kk (s.1.2 y) s.2.2.2).2.2.2.2.2.1 = (prT a.2.2.2.2.2.2.2.1 a.1 a.2.2.2.2.2.2.2.2.1 y).2 ∧ rel N K D od (s.1, s.2.1, s.2.2.1, shF kk (s.1.2 y) s.2.2.2) (a.1, a.2.1, a.2.2.1, a.2.2.2.1, a.2.2.2.2.1, a.2.2.2.2.2.1, a.2.2.2.2.2.2.1, a.2.2.2.2.2.2.2.1, (prT a.2.2.2.2.2.2.2.1 a.1 a.2.2.2.2.2.2.2.2.1 y).1, a.2.2.2.2.2.2.2.2.2) (n.1, n.2.1, n.2.2.1, (prT a.2.2.2.2.2.2.2.1 a.1 a.2.2.2.2.2.2.2.2.1 y).2, n.2.2.2.2) (i0, i.2))) := by
  obtain ⟨Q, B, L, T, hB, hn, hnm, hl, hx, hfa, hpf⟩ := hr
  have hN : 0 < N ∧ N ≤ 5 := ⟨by have := hNK.1; omega, hNK.2.1⟩
  have hK3 := hNK.2.2.2.1
  obtain ⟨-, -, -, -, -, hcs, hQ, hcl⟩ := id hB
  have hq := hQ y hy
  have e0 : decide (¬ nI y < 0 ∧ nI y < nI n.1) = true := decide_eq_true ⟨nI_pos (by omega), nI_lt (by omega) (by omega)⟩
  have c0 : (nI y).toNatClampNeg = y := nI_clamp (by omega)
  obtain ⟨p1, p2⟩ := same_print hN hK3 hnm hq s.2.2.2 rfl (sh := a.2.2.2.2.2.2.2.2.1) (hcl y hy)
  rw [hcs y hy]
  refine ⟨(Q y).1, hq.1, (cd_dec (okQ_rng hN hK3 hq)).1, ?_⟩
  unfold prC
  rw [e0, c0, Bool.true_and]
  cases hp : lackQ s.2.2.2.1 (cdC (Q y)) with
  | true =>
    rw [hp] at p1
    exact Or.inl ⟨rfl, by cases hb : prB a.2.2.2.2.2.2.2.1 (a.1 (6 * y + 1)) (a.1 (6 * y + 2)) (a.1 (6 * y + 3)) with | true => (rw [hb] at p1; cases p1) | false => rfl⟩
  | false =>
    rw [hp] at p1
    obtain ⟨T', f', q1, q2, q3⟩ := p2 hp
    refine Or.inr ⟨rfl, by cases hb : prB a.2.2.2.2.2.2.2.1 (a.1 (6 * y + 1)) (a.1 (6 * y + 2)) (a.1 (6 * y + 3)) with | false => (rw [hb] at p1; cases p1) | true => rfl, ?_, ?_⟩
    · rw [q1]
      exact q3.1.symm
    · rw [q1]
      exact ⟨Q, B, L, T', hB, hn, hnm, hl, ⟨q2, q3⟩, hfa, hpf⟩
theorem rel_printN {x : Int32} {nm : Nat → Int64} {cl : Nat → Int32} {c : Nat} (h : ¬ (¬ x < 0 ∧ x < nI c)) : prC nm cl c x = false := by
  unfold prC
  rw [decide_eq_false h]
  rfl
end REL
